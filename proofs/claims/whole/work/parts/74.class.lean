theorem vw_rem {M M2 : fs_M} {K : Int → Int} {g : Int} (hV : vw 5 M K) (hH : 0 ≤ g ∧ g < K 1 ∧ K 1 ≤ 6) (zl : ∀ h o, 0 ≤ h → h < 6 → 0 ≤ o → o < 6 → (K 1 ≤ h ∨ K 1 ≤ o) → K (64 + 6 * h + o) = 0)
    (f : ∀ r, r ≠ 5 → r ≠ 7 → r ≠ 8 → r ≠ 9 → M2 r = M r) (h5 : M2 5 1 = M 5 1 - 1 ∧ M2 5 0 = M 5 0)
    (c7 : ∀ h k, 0 ≤ h → h < 6 → 0 ≤ k → k < 5 → M2 7 (h * 5 + k) = if h < M 5 1 - 1 then M 7 (gs_h g h * 5 + k) else if h = M 5 1 - 1 ∧ k < 3 then 0 else M 7 (h * 5 + k))
    (c8 : ∀ h k, 0 ≤ h → h < 6 → 0 ≤ k → k < 4 → M2 8 (h * 4 + k) = if h < M 5 1 - 1 then M 8 (gs_h g h * 4 + k) else if h = M 5 1 - 1 then 0 else M 8 (h * 4 + k))
    (c9 : ∀ a o, 0 ≤ a → a < 6 → 0 ≤ o → o < 6 → M2 9 (a * 6 + o) = if a = M 5 1 - 1 ∨ o = M 5 1 - 1 then 0 else if a < M 5 1 - 1 ∧ o < M 5 1 - 1 then M 9 (gs_h g a * 6 + gs_h g o) else M 9 (a * 6 + o)) : vw 5 M2 (gs_row K g) := by
  obtain ⟨v0, v1, vcv, vfc, vhd, vln, vlc, vit⟩ := vw5 hV
  rw [v1] at h5 c7 c8 c9
  have gb : ∀ h, 0 ≤ h → h < K 1 - 1 → 0 ≤ gs_h g h ∧ gs_h g h < K 1 := fun h h0 h1 => by unfold gs_h; split <;> omega
  have e1 : gs_row K g 1 = K 1 - 1 := if_pos rfl
  have eo : ∀ q, q ≠ 1 → (q < 10 ∨ 100 ≤ q) → gs_row K g q = K q := fun q q1 q2 => by
    unfold gs_row
    rw [if_neg q1, if_neg (by omega), if_neg (by omega), if_neg (by omega)]
  refine vw5.of ⟨?_, ?_, fun q q0 q1 => ⟨?_, ?_⟩, fun h w x0 x1 w0 w1 z => ?_, fun h w x0 x1 w0 w1 => ?_, fun h w x0 x1 w0 w1 => ?_, fun t x0 x1 => ?_, fun t a w x0 x1 p0 p1 w0 w1 => ?_⟩
  · rw [h5.2, eo 0 (by omega) (by omega)]
    exact v0
  · rw [h5.1, e1]
  · rw [f 6 (by decide) (by decide) (by decide) (by decide), eo _ (by omega) (by omega)]
    exact (vcv q q0 q1).1
  · rw [f 6 (by decide) (by decide) (by decide) (by decide), eo _ (by omega) (by omega)]
    exact (vcv q q0 q1).2
  · rw [e1] at z
    rw [c7 h w x0 x1 w0 w1]
    unfold gs_row
    rw [if_neg (show ¬ 10 + 5 * h + w = 1 by omega), if_pos (show 10 ≤ 10 + 5 * h + w ∧ 10 + 5 * h + w < 40 by omega), show (10 + 5 * h + w - 10) / 5 = h by omega, show (10 + 5 * h + w - 10) % 5 = w by omega]
    by_cases y : h < K 1 - 1
    · rw [if_pos y, if_pos y]
      have b := gb h x0 y
      exact vfc (gs_h g h) w (by omega) (by omega) w0 w1 (Or.inl (by omega))
    · rw [if_neg y, if_neg y]
      by_cases y2 : h = K 1 - 1
      · rw [if_pos y2, if_pos ⟨y2, by omega⟩]
      · rw [if_neg y2, if_neg (fun q => y2 q.1)]
        exact vfc h w x0 x1 w0 w1 (by omega)
  · rw [c8 h w x0 x1 w0 w1]
    unfold gs_row
    rw [if_neg (show ¬ 40 + 4 * h + w = 1 by omega), if_neg (show ¬ (10 ≤ 40 + 4 * h + w ∧ 40 + 4 * h + w < 40) by omega), if_pos (show 40 ≤ 40 + 4 * h + w ∧ 40 + 4 * h + w < 64 by omega), show (40 + 4 * h + w - 40) / 4 = h by omega, show (40 + 4 * h + w - 40) % 4 = w by omega]
    by_cases y : h < K 1 - 1
    · rw [if_pos y, if_pos y]
      have b := gb h x0 y
      exact vhd (gs_h g h) w (by omega) (by omega) w0 w1
    · rw [if_neg y, if_neg y]
      by_cases y2 : h = K 1 - 1
      · rw [if_pos y2, if_pos y2]
      · rw [if_neg y2, if_neg y2]
        exact vhd h w x0 x1 w0 w1
  · rw [c9 h w x0 x1 w0 w1]
    unfold gs_row
    rw [if_neg (show ¬ 64 + 6 * h + w = 1 by omega), if_neg (show ¬ (10 ≤ 64 + 6 * h + w ∧ 64 + 6 * h + w < 40) by omega), if_neg (show ¬ (40 ≤ 64 + 6 * h + w ∧ 64 + 6 * h + w < 64) by omega), if_pos (show 64 ≤ 64 + 6 * h + w ∧ 64 + 6 * h + w < 100 by omega), show (64 + 6 * h + w - 64) / 6 = h by omega, show (64 + 6 * h + w - 64) % 6 = w by omega]
    by_cases y : h = K 1 - 1
    · rw [if_pos (Or.inl y), if_pos y]
    · rw [if_neg y]
      by_cases y5 : w = 5
      · rw [if_pos y5]
        by_cases y6 : w = K 1 - 1
        · rw [if_pos (Or.inr y6)]
        · rw [if_neg (by omega), if_neg (by omega), vln h w x0 x1 w0 w1]
          exact zl h w x0 x1 w0 w1 (Or.inr (by omega))
      · rw [if_neg y5]
        by_cases y6 : w = K 1 - 1
        · rw [if_pos (Or.inr y6)]
          have ew : gs_h g w = K 1 := by unfold gs_h; rw [if_neg (by omega)]; omega
          rw [ew]
          refine (zl _ _ ?_ ?_ (by omega) (by omega) (Or.inr (by omega))).symm <;> (split; have b := gb h x0 (by assumption); omega; omega)
        · rw [if_neg (by omega)]
          by_cases y7 : h < K 1 - 1 ∧ w < K 1 - 1
          · have b := gb h x0 y7.1
            have b2 := gb w w0 y7.2
            rw [if_pos y7, if_pos y7.1]
            exact vln _ _ (by omega) (by omega) (by omega) (by omega)
          · rw [if_neg y7, vln h w x0 x1 w0 w1]
            have bw : 0 ≤ gs_h g w ∧ gs_h g w < 6 ∧ w ≤ gs_h g w ∧ (K 1 - 1 < w → gs_h g w = w + 1) := by unfold gs_h; split <;> omega
            by_cases y8 : h < K 1 - 1
            · have b := gb h x0 y8
              rw [if_pos y8, zl h w x0 x1 w0 w1 (Or.inr (by omega))]
              exact (zl _ _ (by omega) (by omega) (by omega) (by omega) (Or.inr (by omega))).symm
            · rw [if_neg y8, zl h w x0 x1 w0 w1 (Or.inl (by omega))]
              exact (zl _ _ (by omega) (by omega) (by omega) (by omega) (Or.inl (by omega))).symm
  · rw [f 10 (by decide) (by decide) (by decide) (by decide), eo _ (by omega) (by omega)]
    exact vlc t x0 x1
  · rw [eo _ (by omega) (by omega)] at p1
    rw [f 11 (by decide) (by decide) (by decide) (by decide), eo _ (by omega) (by omega)]
    exact vit t a w x0 x1 p0 p1 w0 w1
/-- two become one, before the second goes -/
def cj_row (N : Int → Int) (x y : Int) : Int → Int := fun q =>
  if 10 ≤ q ∧ q < 40 then (if 10 + 5 * x ≤ q ∧ q < 10 + 5 * x + 3 then min (N q + N (q + 5 * (y - x))) 9999 else N q)
  else if 40 ≤ q ∧ q < 64 then (if 40 + 4 * x ≤ q ∧ q < 40 + 4 * x + 4 then min (N q + N (q + 4 * (y - x))) 60 else N q)
  else if 64 ≤ q ∧ q < 100 then (if (q - 64) / 6 = x then (if (q - 64) % 6 = x ∨ (q - 64) % 6 = y then N q else min (N q + N (64 + 6 * y + (q - 64) % 6)) 999) else if (q - 64) % 6 = x then (if (q - 64) / 6 = y then N q else min (N q + N (64 + 6 * ((q - 64) / 6) + y)) 999) else N q)
  else N q
theorem cj_f {N : Int → Int} {x y h k : Int} (hx : 0 ≤ x ∧ x < 6) (hh : 0 ≤ h ∧ h < 6) (hk : 0 ≤ k ∧ k < 5) : cj_row N x y (10 + 5 * h + k) = if h = x ∧ k < 3 then min (N (10 + 5 * x + k) + N (10 + 5 * y + k)) 9999 else N (10 + 5 * h + k) := by
  unfold cj_row
  rw [if_pos (show 10 ≤ 10 + 5 * h + k ∧ 10 + 5 * h + k < 40 by omega)]
  by_cases z : h = x ∧ k < 3
  · rw [if_pos z, if_pos (by omega), z.1, show 10 + 5 * x + k + 5 * (y - x) = 10 + 5 * y + k by omega]
  · rw [if_neg z, if_neg (by omega)]
theorem cj_d {N : Int → Int} {x y h k : Int} (hx : 0 ≤ x ∧ x < 6) (hh : 0 ≤ h ∧ h < 6) (hk : 0 ≤ k ∧ k < 4) : cj_row N x y (40 + 4 * h + k) = if h = x then min (N (40 + 4 * x + k) + N (40 + 4 * y + k)) 60 else N (40 + 4 * h + k) := by
  unfold cj_row
  rw [if_neg (show ¬ (10 ≤ 40 + 4 * h + k ∧ 40 + 4 * h + k < 40) by omega), if_pos (show 40 ≤ 40 + 4 * h + k ∧ 40 + 4 * h + k < 64 by omega)]
  by_cases z : h = x
  · rw [if_pos z, if_pos (by omega), z, show 40 + 4 * x + k + 4 * (y - x) = 40 + 4 * y + k by omega]
  · rw [if_neg z, if_neg (by omega)]
theorem cj_l {N : Int → Int} {x y h k : Int} (hh : 0 ≤ h ∧ h < 6) (hk : 0 ≤ k ∧ k < 6) : cj_row N x y (64 + 6 * h + k) = if h = x then (if k = x ∨ k = y then N (64 + 6 * h + k) else min (N (64 + 6 * h + k) + N (64 + 6 * y + k)) 999) else if k = x then (if h = y then N (64 + 6 * h + k) else min (N (64 + 6 * h + k) + N (64 + 6 * h + y)) 999) else N (64 + 6 * h + k) := by
  unfold cj_row
  rw [if_neg (show ¬ (10 ≤ 64 + 6 * h + k ∧ 64 + 6 * h + k < 40) by omega), if_neg (show ¬ (40 ≤ 64 + 6 * h + k ∧ 64 + 6 * h + k < 64) by omega), if_pos (show 64 ≤ 64 + 6 * h + k ∧ 64 + 6 * h + k < 100 by omega), show (64 + 6 * h + k - 64) / 6 = h by omega, show (64 + 6 * h + k - 64) % 6 = k by omega]
theorem cj_mg {N : Int → Int} {x y : Int} (hZ : fs_NZ N) (hx : 0 ≤ x ∧ x < N 1) (hy : 0 ≤ y ∧ y < N 1) (h6 : N 1 ≤ 6) (hxy : x ≠ y) : gs_row (cj_row N x y) y = gs_row (mg_row N x y) y := by
  have key : ∀ q, ¬ (64 ≤ q ∧ q < 100 ∧ ((q - 64) / 6 = y ∨ (q - 64) % 6 = y)) → cj_row N x y q = mg_row N x y q := by
    intro q h
    unfold cj_row mg_row
    by_cases z1 : 10 ≤ q ∧ q < 40
    · rw [if_pos z1, if_pos z1]
    rw [if_neg z1, if_neg z1]
    by_cases z2 : 40 ≤ q ∧ q < 64
    · rw [if_pos z2, if_pos z2]
    rw [if_neg z2, if_neg z2]
    by_cases z3 : 64 ≤ q ∧ q < 100
    · rw [if_pos z3, if_pos z3]
      by_cases y1 : (q - 64) / 6 = x
      · rw [if_pos y1, if_pos y1]
        by_cases y2 : (q - 64) % 6 = x ∨ (q - 64) % 6 = y
        · rw [if_pos y2, if_pos y2]
          have w := hZ.2.2.1 x x (by omega) (by omega) (by omega) (by omega) (Or.inr (Or.inr rfl))
          rw [show q = 64 + 6 * x + x by omega]
          exact w
        · rw [if_neg y2, if_neg y2]
      · rw [if_neg y1, if_neg y1]
        by_cases y2 : (q - 64) % 6 = x
        · rw [if_pos y2, if_pos y2, if_neg (by omega), if_neg (by omega)]
        · rw [if_neg y2, if_neg y2]
    · rw [if_neg z3, if_neg z3]
  have k1 : cj_row N x y 1 = N 1 := rfl
  have k2 : mg_row N x y 1 = N 1 := rfl
  funext q
  unfold gs_row
  rw [k1, k2]
  by_cases z1 : q = 1
  · rw [if_pos z1, if_pos z1]
  rw [if_neg z1, if_neg z1]
  by_cases z2 : 10 ≤ q ∧ q < 40
  · rw [if_pos z2, if_pos z2, key q (by omega), key _ (by unfold gs_h; split <;> omega)]
  rw [if_neg z2, if_neg z2]
  by_cases z3 : 40 ≤ q ∧ q < 64
  · rw [if_pos z3, if_pos z3, key q (by omega)]
    by_cases y1 : (q - 40) / 4 < N 1 - 1
    · rw [if_pos y1, if_pos y1, key _ (by unfold gs_h; split <;> omega)]
    · rw [if_neg y1, if_neg y1]
  rw [if_neg z3, if_neg z3]
  by_cases z4 : 64 ≤ q ∧ q < 100
  · rw [if_pos z4, if_pos z4]
    by_cases y1 : (q - 64) / 6 = N 1 - 1
    · rw [if_pos y1, if_pos y1]
    · rw [if_neg y1, if_neg y1]
      by_cases y2 : (q - 64) % 6 = 5
      · rw [if_pos y2, if_pos y2]
      · rw [if_neg y2, if_neg y2]
        refine key _ ?_
        have b2 : 0 ≤ gs_h y ((q - 64) % 6) ∧ gs_h y ((q - 64) % 6) < 6 ∧ gs_h y ((q - 64) % 6) ≠ y := by unfold gs_h; split <;> omega
        have b1 : 0 ≤ (if (q - 64) / 6 < N 1 - 1 then gs_h y ((q - 64) / 6) else (q - 64) / 6) ∧ (if (q - 64) / 6 < N 1 - 1 then gs_h y ((q - 64) / 6) else (q - 64) / 6) < 6 ∧ (if (q - 64) / 6 < N 1 - 1 then gs_h y ((q - 64) / 6) else (q - 64) / 6) ≠ y := by
          unfold gs_h
          split
          · split <;> omega
          · omega
        omega
  · rw [if_neg z4, if_neg z4]
    exact key q (by omega)
theorem fs_c_join {d : Nat} {M : fs_M} {Q : Option fs_V → fs_M → Prop} {x : Int} {y : Int} {N : Int → Int} (hV : vw 5 M N) (hN : fs_NI N) (hZ : fs_NZ N) (hx : 0 ≤ x ∧ x < N 1) (hy : 0 ≤ y ∧ y < N 1) (hne : x ≠ y) (hq0 : ∀ (M2 : fs_M), (∀ r, r ≠ 7 → r ≠ 8 → r ≠ 9 → M2 r = M r) → (vw 5 M2 (cj_row N x y)) → Q none M2) : fs_W (d + 1) 30 0 [some (.inr (.ref 5)), some (.inl x), some (.inl y), none, none, none] [] M Q := by
  obtain ⟨v0, v1, vcv, vfc, vhd, vln, vlc, vit⟩ := vw5 hV
  obtain ⟨⟨hA0, hA1⟩, ⟨hH0, hH1⟩, hcv, hfc, hhd, hln, hsh, hit, hst⟩ := id hN
  refine fs_r_nop (L1 := [some (.inr (.ref 5)), some (.inl x), some (.inl y), some (.inl 0), none, none]) (st1 := []) (M1 := M) (ob := [3 < 6]) rfl rfl (fs_oc (by decide) trivial) ?_
  have loop2 : ∀ (n2 : Nat) (w : Int) (zl4 : Option fs_V) (M3 : fs_M), (0 ≤ w ∧ w ≤ 3) → (∀ r, r ≠ 7 → M3 r = M r) → (∀ h k, 0 ≤ h → h < 6 → 0 ≤ k → k < 5 → M3 7 (h * 5 + k) = if h = x ∧ k < w then min 9999 (M 7 (x * 5 + k) + M 7 (y * 5 + k)) else M 7 (h * 5 + k)) → 3 - w < (n2 : Int) → fs_W (d + 1) 30 2 [some (.inr (.ref 5)), some (.inl x), some (.inl y), some (.inl w), zl4, none] [] M3 Q := by
    intro n2
    induction n2 with
    | zero =>
      intro w zl4 M3 i3 f3 c3 hm2
      exfalso
      omega
    | succ n2 ih2 =>
      intro w zl4 M3 i3 f3 c3 hm2
      refine fs_r_icmp (a := w) (y := 2) (L1 := [some (.inr (.ref 5)), some (.inl x), some (.inl y), some (.inl w), zl4, none]) (st1 := []) (M1 := M3) (ob := []) rfl rfl trivial (fun (h1 : 2 < w) => ?_) (fun (h1 : ¬ (2 < w)) => ?_)
      · refine fs_r_nop (L1 := [some (.inr (.ref 5)), some (.inl x), some (.inl y), some (.inl 0), zl4, none]) (st1 := []) (M1 := M3) (ob := [3 < 6]) rfl rfl (fs_oc (by decide) trivial) ?_
        have loop44 : ∀ (n44 : Nat) (a : Int) (zl4 : Option fs_V) (M4 : fs_M), (0 ≤ a ∧ a ≤ N 0) → (∀ r, r ≠ 8 → M4 r = M3 r) → (∀ h k, 0 ≤ h → h < 6 → 0 ≤ k → k < 4 → M4 8 (h * 4 + k) = if h = x ∧ k < a then min 60 (M 8 (x * 4 + k) + M 8 (y * 4 + k)) else M 8 (h * 4 + k)) → N 0 - a < (n44 : Int) → fs_W (d + 1) 30 44 [some (.inr (.ref 5)), some (.inl x), some (.inl y), some (.inl a), zl4, none] [] M4 Q := by
          intro n44
          induction n44 with
          | zero =>
            intro a zl4 M4 i4 f4 c4 hm44
            exfalso
            omega
          | succ n44 ih44 =>
            intro a zl4 M4 i4 f4 c4 hm44
            have g5 : M4 5 0 = M 5 0 := by rw [f4 5 (by decide), f3 5 (by decide)]
            refine fs_r_icmp (a := a) (y := (M4 5 0)) (L1 := [some (.inr (.ref 5)), some (.inl x), some (.inl y), some (.inl a), zl4, none]) (st1 := []) (M1 := M4) (ob := [5 < fs_N ∧ fs_kd 5 = 0]) rfl rfl (fs_oc fs_ob5 trivial) (fun (h2 : (M4 5 0) ≤ a) => ?_) (fun (h2 : ¬ ((M4 5 0) ≤ a)) => ?_)
            · refine fs_r_nop (L1 := [some (.inr (.ref 5)), some (.inl x), some (.inl y), some (.inl 0), zl4, none]) (st1 := []) (M1 := M4) (ob := [3 < 6]) rfl rfl (fs_oc (by decide) trivial) ?_
              have loop88 : ∀ (n88 : Nat) (t : Int) (zl4 : Option fs_V) (zl5 : Option fs_V) (M5 : fs_M), (0 ≤ t ∧ t ≤ N 1) → (∀ r, r ≠ 9 → M5 r = M4 r) → (∀ a o, 0 ≤ a → a < 6 → 0 ≤ o → o < 6 → M5 9 (a * 6 + o) = if a = x ∧ o < t ∧ o ≠ x ∧ o ≠ y then min 999 (M 9 (x * 6 + o) + M 9 (y * 6 + o)) else if o = x ∧ a < t ∧ a ≠ x ∧ a ≠ y then min 999 (M 9 (a * 6 + x) + M 9 (a * 6 + y)) else M 9 (a * 6 + o)) → N 1 - t < (n88 : Int) → fs_W (d + 1) 30 88 [some (.inr (.ref 5)), some (.inl x), some (.inl y), some (.inl t), zl4, zl5] [] M5 Q := by
                intro n88
                induction n88 with
                | zero =>
                  intro t zl4 zl5 M5 i5 f5 c5 hm88
                  exfalso
                  omega
                | succ n88 ih88 =>
                  intro t zl4 zl5 M5 i5 f5 c5 hm88
                  have g6 : M5 5 1 = M 5 1 := by rw [f5 5 (by decide), f4 5 (by decide), f3 5 (by decide)]
                  refine fs_r_icmp (a := t) (y := (M5 5 1)) (L1 := [some (.inr (.ref 5)), some (.inl x), some (.inl y), some (.inl t), zl4, zl5]) (st1 := []) (M1 := M5) (ob := [5 < fs_N ∧ fs_kd 5 = 0]) rfl rfl (fs_oc fs_ob5 trivial) (fun (h3 : (M5 5 1) ≤ t) => ?_) (fun (h3 : ¬ ((M5 5 1) ≤ t)) => ?_)
                  · refine fs_r_ret (L1 := [some (.inr (.ref 5)), some (.inl x), some (.inl y), some (.inl t), zl4, zl5]) (M1 := M5) (ob := []) rfl rfl trivial ?_
                    have F : ∀ r, r ≠ 7 → r ≠ 8 → r ≠ 9 → M5 r = M r := fun r q1 q2 q3 => by rw [f5 r q3, f4 r q2, f3 r q1]
                    have eo : ∀ q, (q < 10 ∨ 100 ≤ q) → cj_row N x y q = N q := fun q z => by
                      unfold cj_row
                      rw [if_neg (by omega), if_neg (by omega), if_neg (by omega)]
                    refine hq0 _ F (vw5.of ⟨?_, ?_, fun q q0 q1 => ⟨?_, ?_⟩, fun h k x0 x1 w0 w1 z => ?_, fun h k x0 x1 w0 w1 => ?_, fun h k x0 x1 w0 w1 => ?_, fun s x0 x1 => ?_, fun s p k x0 x1 p0 p1 w0 w1 => ?_⟩)
                    · rw [F 5 (by decide) (by decide) (by decide), eo 0 (by omega)]
                      exact v0
                    · rw [F 5 (by decide) (by decide) (by decide), eo 1 (by omega)]
                      exact v1
                    · rw [F 6 (by decide) (by decide) (by decide), eo _ (by omega)]
                      exact (vcv q q0 q1).1
                    · rw [F 6 (by decide) (by decide) (by decide), eo _ (by omega)]
                      exact (vcv q q0 q1).2
                    · rw [eo 1 (by omega)] at z
                      rw [f5 7 (by decide), f4 7 (by decide), c3 h k x0 x1 w0 w1, cj_f (by omega) (by omega) (by omega)]
                      by_cases y1 : h = x ∧ k < 3
                      · rw [if_pos y1, if_pos (show h = x ∧ k < w by omega), vfc x k (by omega) (by omega) w0 w1 (by omega), vfc y k (by omega) (by omega) w0 w1 (by omega), Int.min_comm]
                      · rw [if_neg y1, if_neg (show ¬ (h = x ∧ k < w) by omega)]
                        exact vfc h k x0 x1 w0 w1 z
                    · rw [f5 8 (by decide), c4 h k x0 x1 w0 w1, cj_d (by omega) (by omega) (by omega)]
                      by_cases y2 : h = x
                      · rw [if_pos y2]
                        by_cases y1 : k < a
                        · rw [if_pos (show h = x ∧ k < a from ⟨y2, y1⟩), vhd x k (by omega) (by omega) w0 w1, vhd y k (by omega) (by omega) w0 w1, Int.min_comm]
                        · have z1 := hZ.2.1 x k (by omega) (by omega) w0 w1 (Or.inr (by omega))
                          have z2 := hZ.2.1 y k (by omega) (by omega) w0 w1 (Or.inr (by omega))
                          rw [if_neg (fun q => y1 q.2), vhd h k x0 x1 w0 w1, y2, z1, z2]
                          rfl
                      · rw [if_neg y2, if_neg (fun q => y2 q.1)]
                        exact vhd h k x0 x1 w0 w1
                    · rw [c5 h k x0 x1 w0 w1, cj_l (by omega) (by omega)]
                      by_cases y1 : h = x
                      · rw [if_pos y1]
                        by_cases y2 : k = x ∨ k = y
                        · rw [if_pos y2, if_neg (show ¬ (h = x ∧ k < t ∧ k ≠ x ∧ k ≠ y) by omega), if_neg (show ¬ (k = x ∧ h < t ∧ h ≠ x ∧ h ≠ y) by omega)]
                          exact vln h k x0 x1 w0 w1
                        · rw [if_neg y2]
                          by_cases y3 : k < t
                          · rw [if_pos (show h = x ∧ k < t ∧ k ≠ x ∧ k ≠ y by omega), vln x k (by omega) (by omega) w0 w1, vln y k (by omega) (by omega) w0 w1, Int.min_comm, y1]
                          · have z1 := hZ.2.2.1 x k (by omega) (by omega) w0 w1 (Or.inr (Or.inl (by omega)))
                            have z2 := hZ.2.2.1 y k (by omega) (by omega) w0 w1 (Or.inr (Or.inl (by omega)))
                            rw [if_neg (show ¬ (h = x ∧ k < t ∧ k ≠ x ∧ k ≠ y) by omega), if_neg (show ¬ (k = x ∧ h < t ∧ h ≠ x ∧ h ≠ y) by omega), vln h k x0 x1 w0 w1, y1, z1, z2]
                            rfl
                      · rw [if_neg y1, if_neg (show ¬ (h = x ∧ k < t ∧ k ≠ x ∧ k ≠ y) from fun q => y1 q.1)]
                        by_cases y2 : k = x
                        · rw [if_pos y2]
                          by_cases y3 : h = y
                          · rw [if_pos y3, if_neg (show ¬ (k = x ∧ h < t ∧ h ≠ x ∧ h ≠ y) by omega)]
                            exact vln h k x0 x1 w0 w1
                          · rw [if_neg y3]
                            by_cases y4 : h < t
                            · rw [if_pos (show k = x ∧ h < t ∧ h ≠ x ∧ h ≠ y by omega), vln h x x0 x1 (by omega) (by omega), vln h y x0 x1 (by omega) (by omega), Int.min_comm, y2]
                            · have z1 := hZ.2.2.1 h x x0 x1 (by omega) (by omega) (Or.inl (by omega))
                              have z2 := hZ.2.2.1 h y x0 x1 (by omega) (by omega) (Or.inl (by omega))
                              rw [if_neg (show ¬ (k = x ∧ h < t ∧ h ≠ x ∧ h ≠ y) by omega), vln h k x0 x1 w0 w1, y2, z1, z2]
                              rfl
                        · rw [if_neg y2, if_neg (show ¬ (k = x ∧ h < t ∧ h ≠ x ∧ h ≠ y) by omega)]
                          exact vln h k x0 x1 w0 w1
                    · rw [F 10 (by decide) (by decide) (by decide), eo _ (by omega)]
                      exact vlc s x0 x1
                    · rw [eo _ (by omega)] at p1
                      rw [F 11 (by decide) (by decide) (by decide), eo _ (by omega)]
                      exact vit s p k x0 x1 p0 p1 w0 w1
                  refine fs_r_icmp (a := t) (y := x) (L1 := [some (.inr (.ref 5)), some (.inl x), some (.inl y), some (.inl t), zl4, zl5]) (st1 := []) (M1 := M5) (ob := []) rfl rfl trivial (fun (h4 : t = x) => ?_) (fun (h4 : ¬ (t = x)) => ?_)
                  · refine fs_r_goto (L1 := [some (.inr (.ref 5)), some (.inl x), some (.inl y), some (.inl (t + 1)), zl4, zl5]) (st1 := []) (M1 := M5) (ob := [fs_rg (t + 1)]) rfl rfl (fs_oc ⟨by omega, by omega⟩ trivial) ?_
                    exact ih88 ((t + 1)) (zl4) (zl5) M5 (by omega) (fun r q => by first | (rw [fs_up_other q, fs_up_other q]; exact f5 r q) | exact f5 r q) (fun a o a0 a1 o0 o1 => by
                         first
                           | (have zz : t = x ∨ t = y := by omega
                              rw [c5 a o a0 a1 o0 o1]
                              by_cases w1 : a = x ∧ o < t ∧ o ≠ x ∧ o ≠ y
                              · rw [if_pos w1, if_pos (show a = x ∧ o < t + 1 ∧ o ≠ x ∧ o ≠ y by omega)]
                              · have w3 : ¬ (a = x ∧ o < t + 1 ∧ o ≠ x ∧ o ≠ y) := by omega
                                rw [if_neg w1, if_neg w3]
                                by_cases w2 : o = x ∧ a < t ∧ a ≠ x ∧ a ≠ y
                                · rw [if_pos w2, if_pos (show o = x ∧ a < t + 1 ∧ a ≠ x ∧ a ≠ y by omega)]
                                · rw [if_neg w2, if_neg (show ¬ (o = x ∧ a < t + 1 ∧ a ≠ x ∧ a ≠ y) by omega)])
                           | (rw [fs_up_at, fs_up_at]
                              by_cases z1 : a * 6 + o = t * 6 + x
                              · have za : a = t := by omega
                                have zo : o = x := by omega
                                rw [if_pos z1, if_neg (show ¬ (a = x ∧ o < t + 1 ∧ o ≠ x ∧ o ≠ y) by omega), if_pos (show o = x ∧ a < t + 1 ∧ a ≠ x ∧ a ≠ y by omega), za, r3, r4]
                              · rw [if_neg z1]
                                by_cases z2 : a * 6 + o = x * 6 + t
                                · have za : a = x := by omega
                                  have zo : o = t := by omega
                                  rw [if_pos z2, if_pos (show a = x ∧ o < t + 1 ∧ o ≠ x ∧ o ≠ y by omega), zo, r1, r2]
                                · rw [if_neg z2, c5 a o a0 a1 o0 o1]
                                  by_cases w1 : a = x ∧ o < t ∧ o ≠ x ∧ o ≠ y
                                  · rw [if_pos w1, if_pos (show a = x ∧ o < t + 1 ∧ o ≠ x ∧ o ≠ y by omega)]
                                  · have w3 : ¬ (a = x ∧ o < t + 1 ∧ o ≠ x ∧ o ≠ y) := by omega
                                    rw [if_neg w1, if_neg w3]
                                    by_cases w2 : o = x ∧ a < t ∧ a ≠ x ∧ a ≠ y
                                    · rw [if_pos w2, if_pos (show o = x ∧ a < t + 1 ∧ a ≠ x ∧ a ≠ y by omega)]
                                    · rw [if_neg w2, if_neg (show ¬ (o = x ∧ a < t + 1 ∧ a ≠ x ∧ a ≠ y) by omega)])) (by omega)
                  refine fs_r_icmp (a := t) (y := y) (L1 := [some (.inr (.ref 5)), some (.inl x), some (.inl y), some (.inl t), zl4, zl5]) (st1 := []) (M1 := M5) (ob := []) rfl rfl trivial (fun (h5 : t = y) => ?_) (fun (h5 : ¬ (t = y)) => ?_)
                  · refine fs_r_goto (L1 := [some (.inr (.ref 5)), some (.inl x), some (.inl y), some (.inl (t + 1)), zl4, zl5]) (st1 := []) (M1 := M5) (ob := [fs_rg (t + 1)]) rfl rfl (fs_oc ⟨by omega, by omega⟩ trivial) ?_
                    exact ih88 ((t + 1)) (zl4) (zl5) M5 (by omega) (fun r q => by first | (rw [fs_up_other q, fs_up_other q]; exact f5 r q) | exact f5 r q) (fun a o a0 a1 o0 o1 => by
                         first
                           | (have zz : t = x ∨ t = y := by omega
                              rw [c5 a o a0 a1 o0 o1]
                              by_cases w1 : a = x ∧ o < t ∧ o ≠ x ∧ o ≠ y
                              · rw [if_pos w1, if_pos (show a = x ∧ o < t + 1 ∧ o ≠ x ∧ o ≠ y by omega)]
                              · have w3 : ¬ (a = x ∧ o < t + 1 ∧ o ≠ x ∧ o ≠ y) := by omega
                                rw [if_neg w1, if_neg w3]
                                by_cases w2 : o = x ∧ a < t ∧ a ≠ x ∧ a ≠ y
                                · rw [if_pos w2, if_pos (show o = x ∧ a < t + 1 ∧ a ≠ x ∧ a ≠ y by omega)]
                                · rw [if_neg w2, if_neg (show ¬ (o = x ∧ a < t + 1 ∧ a ≠ x ∧ a ≠ y) by omega)])
                           | (rw [fs_up_at, fs_up_at]
                              by_cases z1 : a * 6 + o = t * 6 + x
                              · have za : a = t := by omega
                                have zo : o = x := by omega
                                rw [if_pos z1, if_neg (show ¬ (a = x ∧ o < t + 1 ∧ o ≠ x ∧ o ≠ y) by omega), if_pos (show o = x ∧ a < t + 1 ∧ a ≠ x ∧ a ≠ y by omega), za, r3, r4]
                              · rw [if_neg z1]
                                by_cases z2 : a * 6 + o = x * 6 + t
                                · have za : a = x := by omega
                                  have zo : o = t := by omega
                                  rw [if_pos z2, if_pos (show a = x ∧ o < t + 1 ∧ o ≠ x ∧ o ≠ y by omega), zo, r1, r2]
                                · rw [if_neg z2, c5 a o a0 a1 o0 o1]
                                  by_cases w1 : a = x ∧ o < t ∧ o ≠ x ∧ o ≠ y
                                  · rw [if_pos w1, if_pos (show a = x ∧ o < t + 1 ∧ o ≠ x ∧ o ≠ y by omega)]
                                  · have w3 : ¬ (a = x ∧ o < t + 1 ∧ o ≠ x ∧ o ≠ y) := by omega
                                    rw [if_neg w1, if_neg w3]
                                    by_cases w2 : o = x ∧ a < t ∧ a ≠ x ∧ a ≠ y
                                    · rw [if_pos w2, if_pos (show o = x ∧ a < t + 1 ∧ a ≠ x ∧ a ≠ y by omega)]
                                    · rw [if_neg w2, if_neg (show ¬ (o = x ∧ a < t + 1 ∧ a ≠ x ∧ a ≠ y) by omega)])) (by omega)
                  have r1 : M5 9 ((x * 6) + t) = M 9 (x * 6 + t) := by rw [c5 x t (by omega) (by omega) (by omega) (by omega), if_neg (by omega), if_neg (by omega)]
                  have r2 : M5 9 ((y * 6) + t) = M 9 (y * 6 + t) := by rw [c5 y t (by omega) (by omega) (by omega) (by omega), if_neg (by omega), if_neg (by omega)]
                  have r3 : M5 9 ((t * 6) + x) = M 9 (t * 6 + x) := by rw [c5 t x (by omega) (by omega) (by omega) (by omega), if_neg (by omega), if_neg (by omega)]
                  have r4 : M5 9 ((t * 6) + y) = M 9 (t * 6 + y) := by rw [c5 t y (by omega) (by omega) (by omega) (by omega), if_neg (by omega), if_neg (by omega)]
                  have a1 := vln x t (by omega) (by omega) (by omega) (by omega)
                  have a2 := vln y t (by omega) (by omega) (by omega) (by omega)
                  have a3 := vln t x (by omega) (by omega) (by omega) (by omega)
                  have a4 := vln t y (by omega) (by omega) (by omega) (by omega)
                  have b1 := hln x t (by omega) (by omega) (by omega) (by omega)
                  have b2 := hln y t (by omega) (by omega) (by omega) (by omega)
                  have b3 := hln t x (by omega) (by omega) (by omega) (by omega)
                  have b4 := hln t y (by omega) (by omega) (by omega) (by omega)
                  refine fs_r_call (sta := false) (idx := 53) (as := [.inr (.ref 5), .inl x, .inl t]) (rest := []) (L1 := [some (.inr (.ref 5)), some (.inl x), some (.inl y), some (.inl t), zl4, zl5]) (st1 := [.inl t, .inl x, .inr (.ref 5)]) (M1 := M5) (ob := []) rfl rfl rfl trivial rfl rfl (Nat.le_of_ble_eq_true rfl) ⟨Or.inr (Nat.le_of_ble_eq_true rfl), Or.inr fs_ob5⟩ (by decide) ?_
                  refine fs_c_loanOf (by first | exact Or.inl rfl | exact Or.inr (Or.inl rfl) | assumption) (by omega) (by omega) ?_
                  refine fs_r_call (sta := false) (idx := 53) (as := [.inr (.ref 5), .inl y, .inl t]) (rest := [.inl (M5 9 ((x * 6) + t))]) (L1 := [some (.inr (.ref 5)), some (.inl x), some (.inl y), some (.inl t), zl4, zl5]) (st1 := [.inl t, .inl y, .inr (.ref 5), .inl (M5 9 ((x * 6) + t))]) (M1 := M5) (ob := []) rfl rfl rfl trivial rfl rfl (Nat.le_of_ble_eq_true rfl) ⟨Or.inr (Nat.le_of_ble_eq_true rfl), Or.inr fs_ob5⟩ (by decide) ?_
                  refine fs_c_loanOf (by first | exact Or.inl rfl | exact Or.inr (Or.inl rfl) | assumption) (by omega) (by omega) ?_
                  refine fs_r_call (sta := false) (idx := 53) (as := [.inr (.ref 5), .inl t, .inl x]) (rest := []) (L1 := [some (.inr (.ref 5)), some (.inl x), some (.inl y), some (.inl t), some (.inl ((M5 9 ((x * 6) + t)) + (M5 9 ((y * 6) + t)))), zl5]) (st1 := [.inl x, .inl t, .inr (.ref 5)]) (M1 := M5) (ob := [fs_rg ((M5 9 ((x * 6) + t)) + (M5 9 ((y * 6) + t))), 4 < 6]) rfl rfl rfl (fs_oc ⟨by omega, by omega⟩ (fs_oc (by decide) trivial)) rfl rfl (Nat.le_of_ble_eq_true rfl) ⟨Or.inr (Nat.le_of_ble_eq_true rfl), Or.inr fs_ob5⟩ (by decide) ?_
                  refine fs_c_loanOf (by first | exact Or.inl rfl | exact Or.inr (Or.inl rfl) | assumption) (by omega) (by omega) ?_
                  refine fs_r_call (sta := false) (idx := 53) (as := [.inr (.ref 5), .inl t, .inl y]) (rest := [.inl (M5 9 ((t * 6) + x))]) (L1 := [some (.inr (.ref 5)), some (.inl x), some (.inl y), some (.inl t), some (.inl ((M5 9 ((x * 6) + t)) + (M5 9 ((y * 6) + t)))), zl5]) (st1 := [.inl y, .inl t, .inr (.ref 5), .inl (M5 9 ((t * 6) + x))]) (M1 := M5) (ob := []) rfl rfl rfl trivial rfl rfl (Nat.le_of_ble_eq_true rfl) ⟨Or.inr (Nat.le_of_ble_eq_true rfl), Or.inr fs_ob5⟩ (by decide) ?_
                  refine fs_c_loanOf (by first | exact Or.inl rfl | exact Or.inr (Or.inl rfl) | assumption) (by omega) (by omega) ?_
                  refine fs_r_nat (v := .inl (min 999 ((M5 9 ((x * 6) + t)) + (M5 9 ((y * 6) + t))))) (sta := true) (idx := 64) (as := [.inl 999, .inl ((M5 9 ((x * 6) + t)) + (M5 9 ((y * 6) + t)))]) (rest := [.inl t, .inl x, .inr (.ref 5)]) (L1 := [some (.inr (.ref 5)), some (.inl x), some (.inl y), some (.inl t), some (.inl ((M5 9 ((x * 6) + t)) + (M5 9 ((y * 6) + t)))), some (.inl ((M5 9 ((t * 6) + x)) + (M5 9 ((t * 6) + y))))]) (st1 := [.inl ((M5 9 ((x * 6) + t)) + (M5 9 ((y * 6) + t))), .inl 999, .inl t, .inl x, .inr (.ref 5)]) (M1 := M5) (ob := [fs_rg ((M5 9 ((t * 6) + x)) + (M5 9 ((t * 6) + y))), 5 < 6]) rfl rfl rfl (fs_oc ⟨by omega, by omega⟩ (fs_oc (by decide) trivial)) rfl rfl (Nat.le_of_ble_eq_true rfl) ⟨Or.inl (by decide), trivial⟩ (by decide) (rfl) ?_
                  refine fs_r_call (sta := false) (idx := 76) (as := [.inr (.ref 5), .inl x, .inl t, .inl (min 999 ((M5 9 ((x * 6) + t)) + (M5 9 ((y * 6) + t))))]) (rest := []) (L1 := [some (.inr (.ref 5)), some (.inl x), some (.inl y), some (.inl t), some (.inl ((M5 9 ((x * 6) + t)) + (M5 9 ((y * 6) + t)))), some (.inl ((M5 9 ((t * 6) + x)) + (M5 9 ((t * 6) + y))))]) (st1 := [.inl (min 999 ((M5 9 ((x * 6) + t)) + (M5 9 ((y * 6) + t)))), .inl t, .inl x, .inr (.ref 5)]) (M1 := M5) (ob := []) rfl rfl rfl trivial rfl rfl (Nat.le_of_ble_eq_true rfl) ⟨Or.inr (Nat.le_of_ble_eq_true rfl), Or.inr fs_ob5⟩ (by decide) ?_
                  refine fs_c_setLoan (by first | exact Or.inl rfl | exact Or.inr (Or.inl rfl) | assumption) (by omega) (by omega) ?_
                  refine fs_r_nat (v := .inl (min 999 ((M5 9 ((t * 6) + x)) + (M5 9 ((t * 6) + y))))) (sta := true) (idx := 64) (as := [.inl 999, .inl ((M5 9 ((t * 6) + x)) + (M5 9 ((t * 6) + y)))]) (rest := [.inl x, .inl t, .inr (.ref 5)]) (L1 := [some (.inr (.ref 5)), some (.inl x), some (.inl y), some (.inl t), some (.inl ((M5 9 ((x * 6) + t)) + (M5 9 ((y * 6) + t)))), some (.inl ((M5 9 ((t * 6) + x)) + (M5 9 ((t * 6) + y))))]) (st1 := [.inl ((M5 9 ((t * 6) + x)) + (M5 9 ((t * 6) + y))), .inl 999, .inl x, .inl t, .inr (.ref 5)]) (M1 := (fs_up M5 9 ((x * 6) + t) (min 999 ((M5 9 ((x * 6) + t)) + (M5 9 ((y * 6) + t)))))) (ob := []) rfl rfl rfl trivial rfl rfl (Nat.le_of_ble_eq_true rfl) ⟨Or.inl (by decide), trivial⟩ (by decide) (rfl) ?_
                  refine fs_r_call (sta := false) (idx := 76) (as := [.inr (.ref 5), .inl t, .inl x, .inl (min 999 ((M5 9 ((t * 6) + x)) + (M5 9 ((t * 6) + y))))]) (rest := []) (L1 := [some (.inr (.ref 5)), some (.inl x), some (.inl y), some (.inl t), some (.inl ((M5 9 ((x * 6) + t)) + (M5 9 ((y * 6) + t)))), some (.inl ((M5 9 ((t * 6) + x)) + (M5 9 ((t * 6) + y))))]) (st1 := [.inl (min 999 ((M5 9 ((t * 6) + x)) + (M5 9 ((t * 6) + y)))), .inl x, .inl t, .inr (.ref 5)]) (M1 := (fs_up M5 9 ((x * 6) + t) (min 999 ((M5 9 ((x * 6) + t)) + (M5 9 ((y * 6) + t)))))) (ob := []) rfl rfl rfl trivial rfl rfl (Nat.le_of_ble_eq_true rfl) ⟨Or.inr (Nat.le_of_ble_eq_true rfl), Or.inr fs_ob5⟩ (by decide) ?_
                  refine fs_c_setLoan (by first | exact Or.inl rfl | exact Or.inr (Or.inl rfl) | assumption) (by omega) (by omega) ?_
                  refine fs_r_goto (L1 := [some (.inr (.ref 5)), some (.inl x), some (.inl y), some (.inl (t + 1)), some (.inl ((M5 9 ((x * 6) + t)) + (M5 9 ((y * 6) + t)))), some (.inl ((M5 9 ((t * 6) + x)) + (M5 9 ((t * 6) + y))))]) (st1 := []) (M1 := (fs_up (fs_up M5 9 ((x * 6) + t) (min 999 ((M5 9 ((x * 6) + t)) + (M5 9 ((y * 6) + t))))) 9 ((t * 6) + x) (min 999 ((M5 9 ((t * 6) + x)) + (M5 9 ((t * 6) + y)))))) (ob := [fs_rg (t + 1)]) rfl rfl (fs_oc ⟨by omega, by omega⟩ trivial) ?_
                  exact ih88 ((t + 1)) (some (.inl ((M5 9 ((x * 6) + t)) + (M5 9 ((y * 6) + t))))) (some (.inl ((M5 9 ((t * 6) + x)) + (M5 9 ((t * 6) + y))))) (fs_up (fs_up M5 9 ((x * 6) + t) (min 999 ((M5 9 ((x * 6) + t)) + (M5 9 ((y * 6) + t))))) 9 ((t * 6) + x) (min 999 ((M5 9 ((t * 6) + x)) + (M5 9 ((t * 6) + y))))) (by omega) (fun r q => by first | (rw [fs_up_other q, fs_up_other q]; exact f5 r q) | exact f5 r q) (fun a o a0 a1 o0 o1 => by
                       first
                         | (have zz : t = x ∨ t = y := by omega
                            rw [c5 a o a0 a1 o0 o1]
                            by_cases w1 : a = x ∧ o < t ∧ o ≠ x ∧ o ≠ y
                            · rw [if_pos w1, if_pos (show a = x ∧ o < t + 1 ∧ o ≠ x ∧ o ≠ y by omega)]
                            · have w3 : ¬ (a = x ∧ o < t + 1 ∧ o ≠ x ∧ o ≠ y) := by omega
                              rw [if_neg w1, if_neg w3]
                              by_cases w2 : o = x ∧ a < t ∧ a ≠ x ∧ a ≠ y
                              · rw [if_pos w2, if_pos (show o = x ∧ a < t + 1 ∧ a ≠ x ∧ a ≠ y by omega)]
                              · rw [if_neg w2, if_neg (show ¬ (o = x ∧ a < t + 1 ∧ a ≠ x ∧ a ≠ y) by omega)])
                         | (rw [fs_up_at, fs_up_at]
                            by_cases z1 : a * 6 + o = t * 6 + x
                            · have za : a = t := by omega
                              have zo : o = x := by omega
                              rw [if_pos z1, if_neg (show ¬ (a = x ∧ o < t + 1 ∧ o ≠ x ∧ o ≠ y) by omega), if_pos (show o = x ∧ a < t + 1 ∧ a ≠ x ∧ a ≠ y by omega), za, r3, r4]
                            · rw [if_neg z1]
                              by_cases z2 : a * 6 + o = x * 6 + t
                              · have za : a = x := by omega
                                have zo : o = t := by omega
                                rw [if_pos z2, if_pos (show a = x ∧ o < t + 1 ∧ o ≠ x ∧ o ≠ y by omega), zo, r1, r2]
                              · rw [if_neg z2, c5 a o a0 a1 o0 o1]
                                by_cases w1 : a = x ∧ o < t ∧ o ≠ x ∧ o ≠ y
                                · rw [if_pos w1, if_pos (show a = x ∧ o < t + 1 ∧ o ≠ x ∧ o ≠ y by omega)]
                                · have w3 : ¬ (a = x ∧ o < t + 1 ∧ o ≠ x ∧ o ≠ y) := by omega
                                  rw [if_neg w1, if_neg w3]
                                  by_cases w2 : o = x ∧ a < t ∧ a ≠ x ∧ a ≠ y
                                  · rw [if_pos w2, if_pos (show o = x ∧ a < t + 1 ∧ a ≠ x ∧ a ≠ y by omega)]
                                  · rw [if_neg w2, if_neg (show ¬ (o = x ∧ a < t + 1 ∧ a ≠ x ∧ a ≠ y) by omega)])) (by omega)
              exact loop88 (((N 1 - (0)) : Int) + 1).toNat (0) (zl4) (none) M4 (by omega) (fun r _ => rfl) (fun a o _ _ _ _ => by rw [if_neg (by omega), if_neg (by omega), f4 9 (by decide), f3 9 (by decide)]) (by omega)
            have rx : M4 8 ((x * 4) + a) = M 8 (x * 4 + a) := by rw [c4 x a (by omega) (by omega) (by omega) (by omega), if_neg (by omega)]
            have ry : M4 8 ((y * 4) + a) = M 8 (y * 4 + a) := by rw [c4 y a (by omega) (by omega) (by omega) (by omega), if_neg (by omega)]
            have bx := vhd x a (by omega) (by omega) (by omega) (by omega)
            have by_ := vhd y a (by omega) (by omega) (by omega) (by omega)
            have cx := hhd x a (by omega) (by omega) (by omega) (by omega)
            have cy := hhd y a (by omega) (by omega) (by omega) (by omega)
            refine fs_r_call (sta := false) (idx := 49) (as := [.inr (.ref 5), .inl x, .inl a]) (rest := []) (L1 := [some (.inr (.ref 5)), some (.inl x), some (.inl y), some (.inl a), zl4, none]) (st1 := [.inl a, .inl x, .inr (.ref 5)]) (M1 := M4) (ob := []) rfl rfl rfl trivial rfl rfl (Nat.le_of_ble_eq_true rfl) ⟨Or.inr (Nat.le_of_ble_eq_true rfl), Or.inr fs_ob5⟩ (by decide) ?_
            refine fs_c_holdingOf (by first | exact Or.inl rfl | exact Or.inr (Or.inl rfl) | assumption) (by omega) (by omega) ?_
            refine fs_r_call (sta := false) (idx := 49) (as := [.inr (.ref 5), .inl y, .inl a]) (rest := [.inl (M4 8 ((x * 4) + a))]) (L1 := [some (.inr (.ref 5)), some (.inl x), some (.inl y), some (.inl a), zl4, none]) (st1 := [.inl a, .inl y, .inr (.ref 5), .inl (M4 8 ((x * 4) + a))]) (M1 := M4) (ob := []) rfl rfl rfl trivial rfl rfl (Nat.le_of_ble_eq_true rfl) ⟨Or.inr (Nat.le_of_ble_eq_true rfl), Or.inr fs_ob5⟩ (by decide) ?_
            refine fs_c_holdingOf (by first | exact Or.inl rfl | exact Or.inr (Or.inl rfl) | assumption) (by omega) (by omega) ?_
            refine fs_r_nat (v := .inl (min 60 ((M4 8 ((x * 4) + a)) + (M4 8 ((y * 4) + a))))) (sta := true) (idx := 64) (as := [.inl 60, .inl ((M4 8 ((x * 4) + a)) + (M4 8 ((y * 4) + a)))]) (rest := [.inl a, .inl x, .inr (.ref 5)]) (L1 := [some (.inr (.ref 5)), some (.inl x), some (.inl y), some (.inl a), some (.inl ((M4 8 ((x * 4) + a)) + (M4 8 ((y * 4) + a)))), none]) (st1 := [.inl ((M4 8 ((x * 4) + a)) + (M4 8 ((y * 4) + a))), .inl 60, .inl a, .inl x, .inr (.ref 5)]) (M1 := M4) (ob := [fs_rg ((M4 8 ((x * 4) + a)) + (M4 8 ((y * 4) + a))), 4 < 6]) rfl rfl rfl (fs_oc ⟨by omega, by omega⟩ (fs_oc (by decide) trivial)) rfl rfl (Nat.le_of_ble_eq_true rfl) ⟨Or.inl (by decide), trivial⟩ (by decide) (rfl) ?_
            refine fs_r_call (sta := false) (idx := 73) (as := [.inr (.ref 5), .inl x, .inl a, .inl (min 60 ((M4 8 ((x * 4) + a)) + (M4 8 ((y * 4) + a))))]) (rest := []) (L1 := [some (.inr (.ref 5)), some (.inl x), some (.inl y), some (.inl a), some (.inl ((M4 8 ((x * 4) + a)) + (M4 8 ((y * 4) + a)))), none]) (st1 := [.inl (min 60 ((M4 8 ((x * 4) + a)) + (M4 8 ((y * 4) + a)))), .inl a, .inl x, .inr (.ref 5)]) (M1 := M4) (ob := []) rfl rfl rfl trivial rfl rfl (Nat.le_of_ble_eq_true rfl) ⟨Or.inr (Nat.le_of_ble_eq_true rfl), Or.inr fs_ob5⟩ (by decide) ?_
            refine fs_c_setHolding (by first | exact Or.inl rfl | exact Or.inr (Or.inl rfl) | assumption) (by omega) (by omega) ?_
            refine fs_r_goto (L1 := [some (.inr (.ref 5)), some (.inl x), some (.inl y), some (.inl (a + 1)), some (.inl ((M4 8 ((x * 4) + a)) + (M4 8 ((y * 4) + a)))), none]) (st1 := []) (M1 := (fs_up M4 8 ((x * 4) + a) (min 60 ((M4 8 ((x * 4) + a)) + (M4 8 ((y * 4) + a)))))) (ob := [fs_rg (a + 1)]) rfl rfl (fs_oc ⟨by omega, by omega⟩ trivial) ?_
            exact ih44 ((a + 1)) (some (.inl ((M4 8 ((x * 4) + a)) + (M4 8 ((y * 4) + a))))) (fs_up M4 8 ((x * 4) + a) (min 60 ((M4 8 ((x * 4) + a)) + (M4 8 ((y * 4) + a))))) (by omega) (fun r q => by rw [fs_up_other q]; exact f4 r q) (fun h k h0 h1 k0 k1 => by
                 rw [fs_up_at]
                 by_cases z : h * 4 + k = x * 4 + a
                 · have zh : h = x := by omega
                   have zk : k = a := by omega
                   rw [if_pos z, if_pos (by omega), zk, rx, ry]
                 · rw [if_neg z, c4 h k h0 h1 k0 k1]
                   by_cases w : h = x ∧ k < a
                   · rw [if_pos w, if_pos (by omega)]
                   · rw [if_neg w, if_neg (by omega)]) (by omega)
        exact loop44 (((N 0 - (0)) : Int) + 1).toNat (0) (zl4) M3 (by omega) (fun r _ => rfl) (fun h k _ _ _ _ => by rw [if_neg (by omega), f3 8 (by decide)]) (by omega)
      have rx : M3 7 ((x * 5) + w) = M 7 (x * 5 + w) := by rw [c3 x w (by omega) (by omega) (by omega) (by omega), if_neg (by omega)]
      have ry : M3 7 ((y * 5) + w) = M 7 (y * 5 + w) := by rw [c3 y w (by omega) (by omega) (by omega) (by omega), if_neg (by omega)]
      have bx := vfc x w (by omega) (by omega) (by omega) (by omega) (by omega)
      have by_ := vfc y w (by omega) (by omega) (by omega) (by omega) (by omega)
      have cx := hfc x w (by omega) (by omega) (by omega) (by omega)
      have cy := hfc y w (by omega) (by omega) (by omega) (by omega)
      refine fs_r_call (sta := false) (idx := 79) (as := [.inr (.ref 5), .inl x, .inl w]) (rest := []) (L1 := [some (.inr (.ref 5)), some (.inl x), some (.inl y), some (.inl w), zl4, none]) (st1 := [.inl w, .inl x, .inr (.ref 5)]) (M1 := M3) (ob := []) rfl rfl rfl trivial rfl rfl (Nat.le_of_ble_eq_true rfl) ⟨Or.inr (Nat.le_of_ble_eq_true rfl), Or.inr fs_ob5⟩ (by decide) ?_
      refine fs_c_fact (by first | exact Or.inl rfl | exact Or.inr (Or.inl rfl) | assumption) (by omega) (by omega) ?_
      refine fs_r_call (sta := false) (idx := 79) (as := [.inr (.ref 5), .inl y, .inl w]) (rest := [.inl (M3 7 ((x * 5) + w))]) (L1 := [some (.inr (.ref 5)), some (.inl x), some (.inl y), some (.inl w), zl4, none]) (st1 := [.inl w, .inl y, .inr (.ref 5), .inl (M3 7 ((x * 5) + w))]) (M1 := M3) (ob := []) rfl rfl rfl trivial rfl rfl (Nat.le_of_ble_eq_true rfl) ⟨Or.inr (Nat.le_of_ble_eq_true rfl), Or.inr fs_ob5⟩ (by decide) ?_
      refine fs_c_fact (by first | exact Or.inl rfl | exact Or.inr (Or.inl rfl) | assumption) (by omega) (by omega) ?_
      refine fs_r_nat (v := .inl (min 9999 ((M3 7 ((x * 5) + w)) + (M3 7 ((y * 5) + w))))) (sta := true) (idx := 64) (as := [.inl 9999, .inl ((M3 7 ((x * 5) + w)) + (M3 7 ((y * 5) + w)))]) (rest := [.inl w, .inl x, .inr (.ref 5)]) (L1 := [some (.inr (.ref 5)), some (.inl x), some (.inl y), some (.inl w), some (.inl ((M3 7 ((x * 5) + w)) + (M3 7 ((y * 5) + w)))), none]) (st1 := [.inl ((M3 7 ((x * 5) + w)) + (M3 7 ((y * 5) + w))), .inl 9999, .inl w, .inl x, .inr (.ref 5)]) (M1 := M3) (ob := [fs_rg ((M3 7 ((x * 5) + w)) + (M3 7 ((y * 5) + w))), 4 < 6]) rfl rfl rfl (fs_oc ⟨by omega, by omega⟩ (fs_oc (by decide) trivial)) rfl rfl (Nat.le_of_ble_eq_true rfl) ⟨Or.inl (by decide), trivial⟩ (by decide) (rfl) ?_
      refine fs_r_call (sta := false) (idx := 69) (as := [.inr (.ref 5), .inl x, .inl w, .inl (min 9999 ((M3 7 ((x * 5) + w)) + (M3 7 ((y * 5) + w))))]) (rest := []) (L1 := [some (.inr (.ref 5)), some (.inl x), some (.inl y), some (.inl w), some (.inl ((M3 7 ((x * 5) + w)) + (M3 7 ((y * 5) + w)))), none]) (st1 := [.inl (min 9999 ((M3 7 ((x * 5) + w)) + (M3 7 ((y * 5) + w)))), .inl w, .inl x, .inr (.ref 5)]) (M1 := M3) (ob := []) rfl rfl rfl trivial rfl rfl (Nat.le_of_ble_eq_true rfl) ⟨Or.inr (Nat.le_of_ble_eq_true rfl), Or.inr fs_ob5⟩ (by decide) ?_
      refine fs_c_setFact (by first | exact Or.inl rfl | exact Or.inr (Or.inl rfl) | assumption) (by omega) (by omega) ?_
      refine fs_r_goto (L1 := [some (.inr (.ref 5)), some (.inl x), some (.inl y), some (.inl (w + 1)), some (.inl ((M3 7 ((x * 5) + w)) + (M3 7 ((y * 5) + w)))), none]) (st1 := []) (M1 := (fs_up M3 7 ((x * 5) + w) (min 9999 ((M3 7 ((x * 5) + w)) + (M3 7 ((y * 5) + w)))))) (ob := [fs_rg (w + 1)]) rfl rfl (fs_oc ⟨by omega, by omega⟩ trivial) ?_
      exact ih2 ((w + 1)) (some (.inl ((M3 7 ((x * 5) + w)) + (M3 7 ((y * 5) + w))))) (fs_up M3 7 ((x * 5) + w) (min 9999 ((M3 7 ((x * 5) + w)) + (M3 7 ((y * 5) + w))))) (by omega) (fun r q => by rw [fs_up_other q]; exact f3 r q) (fun h k h0 h1 k0 k1 => by
           rw [fs_up_at]
           by_cases z : h * 5 + k = x * 5 + w
           · have zh : h = x := by omega
             have zk : k = w := by omega
             rw [if_pos z, if_pos (by omega), zk, rx, ry]
           · rw [if_neg z, c3 h k h0 h1 k0 k1]
             by_cases w : h = x ∧ k < w
             · rw [if_pos w, if_pos (by omega)]
             · rw [if_neg w, if_neg (by omega)]) (by omega)
  exact loop2 (((3 - (0)) : Int) + 1).toNat (0) (none) M (by omega) (fun r _ => rfl) (fun h k _ _ _ _ => by rw [if_neg (by omega)]) (by omega)

theorem fs_c_close {d : Nat} {M : fs_M} {Q : Option fs_V → fs_M → Prop} {g : Int} {N : Int → Int} {n : Int} {U : Int → Int → Int} (hV : vw 5 M N) (hN : fs_NI N) (hU : us M n U) (hZ : fs_NZ N) (hq0 : ∀ (M2 : fs_M), (0 ≤ g ∧ g < N 1) → (ca M M2 (gs_row N g) n U N) → Q (some (.inl (N 1 - 1))) M2) (hq1 : (¬ (0 ≤ g ∧ g < N 1)) → Q (some (.inl (-1))) M) : fs_W (d + 4) 88 0 [some (.inr (.ref 0)), some (.inl g)] [] M Q := by
  obtain ⟨v0, v1, vcv, vfc, vhd, vln, vlc, vit⟩ := vw5 hV
  obtain ⟨⟨hA0, hA1⟩, ⟨hH0, hH1⟩, hcv, hfc, hhd, hln, hsh, hit, hst⟩ := id hN
  refine fs_r_call (sta := false) (idx := 117) (as := [.inr (.ref 5), .inl g]) (rest := []) (L1 := [some (.inr (.ref 0)), some (.inl g)]) (st1 := [.inl g, .inr (.ref 5)]) (M1 := M) (ob := [0 < fs_N ∧ fs_kd 0 = 5]) rfl rfl rfl (fs_oc fs_ob0 trivial) rfl rfl (Nat.le_of_ble_eq_true rfl) ⟨Or.inr (Nat.le_of_ble_eq_true rfl), Or.inr fs_ob5⟩ (by decide) ?_
  refine fs_c_isHouse (fun (f1 : 0 ≤ g ∧ g < M 5 1) => ?_) (fun (f2 : ¬ (0 ≤ g ∧ g < M 5 1)) => ?_)
  · refine fs_r_if (a := 1) (L1 := [some (.inr (.ref 0)), some (.inl g)]) (st1 := []) (M1 := M) (ob := []) rfl rfl trivial (fun _ => ?_) (fun h => absurd (by decide : ¬ (1 : Int) = 0) h)
    refine fs_r_call (sta := false) (idx := 99) (as := [.inr (.ref 0)]) (rest := []) (L1 := [some (.inr (.ref 0)), some (.inl g)]) (st1 := [.inr (.ref 0)]) (M1 := M) (ob := []) rfl rfl rfl trivial rfl rfl (Nat.le_of_ble_eq_true rfl) ⟨Or.inr (Nat.le_of_ble_eq_true rfl), Or.inr fs_ob0⟩ (by decide) ?_
    refine fs_c_remember (N := N) (n := n) (U := U) (by assumption) (by assumption) (by assumption) (fun (V1 : fs_M) (rf : ∀ r, r ≠ 0 → (r < 40 ∨ 123 < r) → V1 r = M r) (ru : us V1 (us_n n) (us_u n U N)) => ?_)
    have k5 := congrFun (rf 5 (by decide) (by decide)) 1
    refine fs_r_call (sta := false) (idx := 178) (as := [.inr (.ref 5), .inl g]) (rest := []) (L1 := [some (.inr (.ref 0)), some (.inl g)]) (st1 := [.inl g, .inr (.ref 5)]) (M1 := V1) (ob := [0 < fs_N ∧ fs_kd 0 = 5]) rfl rfl rfl (fs_oc fs_ob0 trivial) rfl rfl (Nat.le_of_ble_eq_true rfl) ⟨Or.inr (Nat.le_of_ble_eq_true rfl), Or.inr fs_ob5⟩ (by decide) ?_
    refine fs_c_removeHouse (by omega) (fun (W : fs_M) (wf : ∀ r, r ≠ 5 → r ≠ 7 → r ≠ 8 → r ≠ 9 → W r = V1 r) (w5 : W 5 1 = V1 5 1 - 1 ∧ W 5 0 = V1 5 0) (w7 : ∀ h k, 0 ≤ h → h < 6 → 0 ≤ k → k < 5 → W 7 (h * 5 + k) = if h < V1 5 1 - 1 then V1 7 (gs_h g h * 5 + k) else if h = V1 5 1 - 1 ∧ k < 3 then 0 else V1 7 (h * 5 + k)) (w8 : ∀ h k, 0 ≤ h → h < 6 → 0 ≤ k → k < 4 → W 8 (h * 4 + k) = if h < V1 5 1 - 1 then V1 8 (gs_h g h * 4 + k) else if h = V1 5 1 - 1 then 0 else V1 8 (h * 4 + k)) (w9 : ∀ a o, 0 ≤ a → a < 6 → 0 ≤ o → o < 6 → W 9 (a * 6 + o) = if a = V1 5 1 - 1 ∨ o = V1 5 1 - 1 then 0 else if a < V1 5 1 - 1 ∧ o < V1 5 1 - 1 then V1 9 (gs_h g a * 6 + gs_h g o) else V1 9 (a * 6 + o)) => ?_)
    refine fs_r_iret (a := (W 5 1)) (L1 := [some (.inr (.ref 0)), some (.inl g)]) (M1 := W) (ob := [0 < fs_N ∧ fs_kd 0 = 5, 5 < fs_N ∧ fs_kd 5 = 0]) rfl rfl (fs_oc fs_ob0 (fs_oc fs_ob5 trivial)) (Or.inl rfl) ?_
    exact fs_qi (by rw [w5.1]; omega) (hq0 _ (by omega) (ca.of rf ru (vw_rem (hV.fr (fun r q1 q2 => rf r (by omega) (by omega))) (by omega) (fun a o a0 a1 o0 o1 z => hZ.2.2.1 a o a0 a1 o0 o1 (by omega)) wf w5 w7 w8 w9) (fun r q => wf r (by omega) (by omega) (by omega) (by omega))))
  refine fs_r_if (a := 0) (L1 := [some (.inr (.ref 0)), some (.inl g)]) (st1 := []) (M1 := M) (ob := []) rfl rfl trivial (fun h => absurd h (by decide : ¬ (¬ (0 : Int) = 0))) (fun _ => ?_)
  refine fs_r_iret (a := (-1)) (L1 := [some (.inr (.ref 0)), some (.inl g)]) (M1 := M) (ob := []) rfl rfl trivial (Or.inl rfl) ?_
  exact hq1 (fun z => by omega)

theorem cj_zl {N : Int → Int} {x y : Int} (hZ : fs_NZ N) (hx : 0 ≤ x ∧ x < N 1) (hy : 0 ≤ y ∧ y < N 1) (h6 : N 1 ≤ 6) : ∀ h o, 0 ≤ h → h < 6 → 0 ≤ o → o < 6 → (cj_row N x y 1 ≤ h ∨ cj_row N x y 1 ≤ o) → cj_row N x y (64 + 6 * h + o) = 0 := by
  intro h o h0 h1 o0 o1 z
  have k1 : cj_row N x y 1 = N 1 := rfl
  rw [k1] at z
  rw [cj_l (by omega) (by omega)]
  have w1 := hZ.2.2.1 h o h0 h1 o0 o1 (by omega)
  by_cases y1 : h = x
  · have w2 := hZ.2.2.1 y o (by omega) (by omega) o0 o1 (Or.inr (Or.inl (by omega)))
    rw [if_pos y1, w1, w2]
    split <;> rfl
  · rw [if_neg y1]
    by_cases y2 : o = x
    · have w2 := hZ.2.2.1 h y h0 h1 (by omega) (by omega) (Or.inl (by omega))
      rw [if_pos y2, w1, w2]
      split <;> rfl
    · rw [if_neg y2, w1]
theorem fs_c_merge {d : Nat} {M : fs_M} {Q : Option fs_V → fs_M → Prop} {x : Int} {y : Int} {N : Int → Int} {n : Int} {U : Int → Int → Int} (hV : vw 5 M N) (hN : fs_NI N) (hU : us M n U) (hZ : fs_NZ N) (hq0 : ∀ (M2 : fs_M), ((0 ≤ x ∧ x < N 1) ∧ (0 ≤ y ∧ y < N 1) ∧ x ≠ y) → (ca M M2 (gs_row (mg_row N x y) y) n U N) → Q (some (.inl (if y < x then x - 1 else x))) M2) (hq1 : (¬ ((0 ≤ x ∧ x < N 1) ∧ (0 ≤ y ∧ y < N 1) ∧ x ≠ y)) → Q (some (.inl (-1))) M) : fs_W (d + 4) 87 0 [some (.inr (.ref 0)), some (.inl x), some (.inl y)] [] M Q := by
  obtain ⟨v0, v1, vcv, vfc, vhd, vln, vlc, vit⟩ := vw5 hV
  obtain ⟨⟨hA0, hA1⟩, ⟨hH0, hH1⟩, hcv, hfc, hhd, hln, hsh, hit, hst⟩ := id hN
  refine fs_r_call (sta := false) (idx := 138) (as := [.inr (.ref 5), .inl x, .inl y]) (rest := []) (L1 := [some (.inr (.ref 0)), some (.inl x), some (.inl y)]) (st1 := [.inl y, .inl x, .inr (.ref 5)]) (M1 := M) (ob := [0 < fs_N ∧ fs_kd 0 = 5]) rfl rfl rfl (fs_oc fs_ob0 trivial) rfl rfl (Nat.le_of_ble_eq_true rfl) ⟨Or.inr (Nat.le_of_ble_eq_true rfl), Or.inr fs_ob5⟩ (by decide) ?_
  refine fs_c_areTwoHouses (fun (f1 : (0 ≤ x ∧ x < M 5 1) ∧ (0 ≤ y ∧ y < M 5 1) ∧ x ≠ y) => ?_) (fun (f2 : ¬ ((0 ≤ x ∧ x < M 5 1) ∧ (0 ≤ y ∧ y < M 5 1) ∧ x ≠ y)) => ?_)
  · refine fs_r_if (a := 1) (L1 := [some (.inr (.ref 0)), some (.inl x), some (.inl y)]) (st1 := []) (M1 := M) (ob := []) rfl rfl trivial (fun _ => ?_) (fun h => absurd (by decide : ¬ (1 : Int) = 0) h)
    refine fs_r_call (sta := false) (idx := 99) (as := [.inr (.ref 0)]) (rest := []) (L1 := [some (.inr (.ref 0)), some (.inl x), some (.inl y)]) (st1 := [.inr (.ref 0)]) (M1 := M) (ob := []) rfl rfl rfl trivial rfl rfl (Nat.le_of_ble_eq_true rfl) ⟨Or.inr (Nat.le_of_ble_eq_true rfl), Or.inr fs_ob0⟩ (by decide) ?_
    refine fs_c_remember (N := N) (n := n) (U := U) (by assumption) (by assumption) (by assumption) (fun (V1 : fs_M) (rf : ∀ r, r ≠ 0 → (r < 40 ∨ 123 < r) → V1 r = M r) (ru : us V1 (us_n n) (us_u n U N)) => ?_)
    refine fs_r_call (sta := false) (idx := 174) (as := [.inr (.ref 5), .inl x, .inl y]) (rest := []) (L1 := [some (.inr (.ref 0)), some (.inl x), some (.inl y)]) (st1 := [.inl y, .inl x, .inr (.ref 5)]) (M1 := V1) (ob := [0 < fs_N ∧ fs_kd 0 = 5]) rfl rfl rfl (fs_oc fs_ob0 trivial) rfl rfl (Nat.le_of_ble_eq_true rfl) ⟨Or.inr (Nat.le_of_ble_eq_true rfl), Or.inr fs_ob5⟩ (by decide) ?_
    refine fs_c_join (N := N) (hV.fr (fun r q1 q2 => rf r (by omega) (by omega))) (by assumption) (by assumption) (by omega) (by omega) (by omega) (fun (J : fs_M) (jf : ∀ r, r ≠ 7 → r ≠ 8 → r ≠ 9 → J r = V1 r) (jv : vw 5 J (cj_row N x y)) => ?_)
    have k5 := (vw5 jv).2.1
    have k6 : cj_row N x y 1 = N 1 := rfl
    refine fs_r_call (sta := false) (idx := 178) (as := [.inr (.ref 5), .inl y]) (rest := []) (L1 := [some (.inr (.ref 0)), some (.inl x), some (.inl y)]) (st1 := [.inl y, .inr (.ref 5)]) (M1 := J) (ob := [0 < fs_N ∧ fs_kd 0 = 5]) rfl rfl rfl (fs_oc fs_ob0 trivial) rfl rfl (Nat.le_of_ble_eq_true rfl) ⟨Or.inr (Nat.le_of_ble_eq_true rfl), Or.inr fs_ob5⟩ (by decide) ?_
    refine fs_c_removeHouse (by omega) (fun (W : fs_M) (wf : ∀ r, r ≠ 5 → r ≠ 7 → r ≠ 8 → r ≠ 9 → W r = J r) (w5 : W 5 1 = J 5 1 - 1 ∧ W 5 0 = J 5 0) (w7 : ∀ h k, 0 ≤ h → h < 6 → 0 ≤ k → k < 5 → W 7 (h * 5 + k) = if h < J 5 1 - 1 then J 7 (gs_h y h * 5 + k) else if h = J 5 1 - 1 ∧ k < 3 then 0 else J 7 (h * 5 + k)) (w8 : ∀ h k, 0 ≤ h → h < 6 → 0 ≤ k → k < 4 → W 8 (h * 4 + k) = if h < J 5 1 - 1 then J 8 (gs_h y h * 4 + k) else if h = J 5 1 - 1 then 0 else J 8 (h * 4 + k)) (w9 : ∀ a o, 0 ≤ a → a < 6 → 0 ≤ o → o < 6 → W 9 (a * 6 + o) = if a = J 5 1 - 1 ∨ o = J 5 1 - 1 then 0 else if a < J 5 1 - 1 ∧ o < J 5 1 - 1 then J 9 (gs_h y a * 6 + gs_h y o) else J 9 (a * 6 + o)) => ?_)
    refine fs_r_icmp (a := y) (y := x) (L1 := [some (.inr (.ref 0)), some (.inl x), some (.inl y)]) (st1 := []) (M1 := W) (ob := []) rfl rfl trivial (fun (h3 : x ≤ y) => ?_) (fun (h3 : ¬ (x ≤ y)) => ?_)
    · refine fs_r_nop (L1 := [some (.inr (.ref 0)), some (.inl x), some (.inl y)]) (st1 := [.inl x]) (M1 := W) (ob := []) rfl rfl trivial ?_
      refine fs_r_iret (a := x) (L1 := [some (.inr (.ref 0)), some (.inl x), some (.inl y)]) (M1 := W) (ob := []) rfl rfl trivial (Or.inl rfl) ?_
      refine fs_qi ?_ (hq0 _ (by omega) (ca.of rf ru ?_ (fun r q => by rw [wf r (by omega) (by omega) (by omega) (by omega)]; exact jf r (by omega) (by omega) (by omega))))
      · first
          | (rw [if_pos (by omega)]; done)
          | (rw [if_neg (by omega)])
      · rw [← cj_mg hZ (by omega) (by omega) hH1 (by omega)]
        exact vw_rem jv (by omega) (cj_zl hZ (by omega) (by omega) hH1) wf w5 w7 w8 w9
    refine fs_r_goto (L1 := [some (.inr (.ref 0)), some (.inl x), some (.inl y)]) (st1 := [.inl (x - 1)]) (M1 := W) (ob := [fs_rg (x - 1)]) rfl rfl (fs_oc ⟨by omega, by omega⟩ trivial) ?_
    refine fs_r_iret (a := (x - 1)) (L1 := [some (.inr (.ref 0)), some (.inl x), some (.inl y)]) (M1 := W) (ob := []) rfl rfl trivial (Or.inl rfl) ?_
    refine fs_qi ?_ (hq0 _ (by omega) (ca.of rf ru ?_ (fun r q => by rw [wf r (by omega) (by omega) (by omega) (by omega)]; exact jf r (by omega) (by omega) (by omega))))
    · first
        | (rw [if_pos (by omega)]; done)
        | (rw [if_neg (by omega)])
    · rw [← cj_mg hZ (by omega) (by omega) hH1 (by omega)]
      exact vw_rem jv (by omega) (cj_zl hZ (by omega) (by omega) hH1) wf w5 w7 w8 w9
  refine fs_r_if (a := 0) (L1 := [some (.inr (.ref 0)), some (.inl x), some (.inl y)]) (st1 := []) (M1 := M) (ob := []) rfl rfl trivial (fun h => absurd h (by decide : ¬ (¬ (0 : Int) = 0))) (fun _ => ?_)
  refine fs_r_iret (a := (-1)) (L1 := [some (.inr (.ref 0)), some (.inl x), some (.inl y)]) (M1 := M) (ob := []) rfl rfl trivial (Or.inl rfl) ?_
  exact hq1 (fun z => by omega)
