/-! acts -/
theorem fs_bk_ne {b c : Nat} (hb : fs_bk b) (hc : fs_bk c) (h : b ≠ c) : b + 6 < c ∨ c + 6 < b := by
  unfold fs_bk at *
  omega
theorem vw_cp {b c : Nat} {M : fs_M} (hb : fs_bk b) (hc : fs_bk c) (hne : b ≠ c) : (∀ r, (r < b ∨ b + 6 < r) → (fs_cp (fs_cp (fs_cp (fs_cp (fs_cp (fs_cp (fs_up (fs_up M b 0 (M c 0)) b 1 ((fs_up M b 0 (M c 0)) c 1)) (c + 1) (b + 1) 8) (c + 2) (b + 2) 30) (c + 3) (b + 3) 24) (c + 4) (b + 4) 36) (c + 5) (b + 5) 3) (c + 6) (b + 6) 36) r = M r) ∧ ∀ N, fs_NI N → vw c M N → vw b (fs_cp (fs_cp (fs_cp (fs_cp (fs_cp (fs_cp (fs_up (fs_up M b 0 (M c 0)) b 1 ((fs_up M b 0 (M c 0)) c 1)) (c + 1) (b + 1) 8) (c + 2) (b + 2) 30) (c + 3) (b + 3) 24) (c + 4) (b + 4) 36) (c + 5) (b + 5) 3) (c + 6) (b + 6) 36) N := by
  have hd := fs_bk_ne hb hc hne
  have x0 : ∀ r, r ≠ b → (fs_up (fs_up M b 0 (M c 0)) b 1 ((fs_up M b 0 (M c 0)) c 1)) r = M r := fun r q => by rw [fs_up_other q, fs_up_other q]
  have f0 : ∀ i, (fs_cp (fs_cp (fs_cp (fs_cp (fs_cp (fs_cp (fs_up (fs_up M b 0 (M c 0)) b 1 ((fs_up M b 0 (M c 0)) c 1)) (c + 1) (b + 1) 8) (c + 2) (b + 2) 30) (c + 3) (b + 3) 24) (c + 4) (b + 4) 36) (c + 5) (b + 5) 3) (c + 6) (b + 6) 36) b i = (fs_up (fs_up M b 0 (M c 0)) b 1 ((fs_up M b 0 (M c 0)) c 1)) b i := fun i => by rw [fs_cp_o (show b ≠ b + 6 by omega), fs_cp_o (show b ≠ b + 5 by omega), fs_cp_o (show b ≠ b + 4 by omega), fs_cp_o (show b ≠ b + 3 by omega), fs_cp_o (show b ≠ b + 2 by omega), fs_cp_o (show b ≠ b + 1 by omega)]
  have e1 : ∀ i, 0 ≤ i → i < 8 → (fs_cp (fs_cp (fs_cp (fs_cp (fs_cp (fs_cp (fs_up (fs_up M b 0 (M c 0)) b 1 ((fs_up M b 0 (M c 0)) c 1)) (c + 1) (b + 1) 8) (c + 2) (b + 2) 30) (c + 3) (b + 3) 24) (c + 4) (b + 4) 36) (c + 5) (b + 5) 3) (c + 6) (b + 6) 36) (b + 1) i = M (c + 1) i := fun i h0 h1 => by rw [fs_cp_o (show b + 1 ≠ b + 6 by omega), fs_cp_o (show b + 1 ≠ b + 5 by omega), fs_cp_o (show b + 1 ≠ b + 4 by omega), fs_cp_o (show b + 1 ≠ b + 3 by omega), fs_cp_o (show b + 1 ≠ b + 2 by omega), fs_cp_i h0 h1, x0 (c + 1) (by omega)]
  have e2 : ∀ i, 0 ≤ i → i < 30 → (fs_cp (fs_cp (fs_cp (fs_cp (fs_cp (fs_cp (fs_up (fs_up M b 0 (M c 0)) b 1 ((fs_up M b 0 (M c 0)) c 1)) (c + 1) (b + 1) 8) (c + 2) (b + 2) 30) (c + 3) (b + 3) 24) (c + 4) (b + 4) 36) (c + 5) (b + 5) 3) (c + 6) (b + 6) 36) (b + 2) i = M (c + 2) i := fun i h0 h1 => by rw [fs_cp_o (show b + 2 ≠ b + 6 by omega), fs_cp_o (show b + 2 ≠ b + 5 by omega), fs_cp_o (show b + 2 ≠ b + 4 by omega), fs_cp_o (show b + 2 ≠ b + 3 by omega), fs_cp_i h0 h1, fs_cp_o (show c + 2 ≠ b + 1 by omega), x0 (c + 2) (by omega)]
  have e3 : ∀ i, 0 ≤ i → i < 24 → (fs_cp (fs_cp (fs_cp (fs_cp (fs_cp (fs_cp (fs_up (fs_up M b 0 (M c 0)) b 1 ((fs_up M b 0 (M c 0)) c 1)) (c + 1) (b + 1) 8) (c + 2) (b + 2) 30) (c + 3) (b + 3) 24) (c + 4) (b + 4) 36) (c + 5) (b + 5) 3) (c + 6) (b + 6) 36) (b + 3) i = M (c + 3) i := fun i h0 h1 => by rw [fs_cp_o (show b + 3 ≠ b + 6 by omega), fs_cp_o (show b + 3 ≠ b + 5 by omega), fs_cp_o (show b + 3 ≠ b + 4 by omega), fs_cp_i h0 h1, fs_cp_o (show c + 3 ≠ b + 2 by omega), fs_cp_o (show c + 3 ≠ b + 1 by omega), x0 (c + 3) (by omega)]
  have e4 : ∀ i, 0 ≤ i → i < 36 → (fs_cp (fs_cp (fs_cp (fs_cp (fs_cp (fs_cp (fs_up (fs_up M b 0 (M c 0)) b 1 ((fs_up M b 0 (M c 0)) c 1)) (c + 1) (b + 1) 8) (c + 2) (b + 2) 30) (c + 3) (b + 3) 24) (c + 4) (b + 4) 36) (c + 5) (b + 5) 3) (c + 6) (b + 6) 36) (b + 4) i = M (c + 4) i := fun i h0 h1 => by rw [fs_cp_o (show b + 4 ≠ b + 6 by omega), fs_cp_o (show b + 4 ≠ b + 5 by omega), fs_cp_i h0 h1, fs_cp_o (show c + 4 ≠ b + 3 by omega), fs_cp_o (show c + 4 ≠ b + 2 by omega), fs_cp_o (show c + 4 ≠ b + 1 by omega), x0 (c + 4) (by omega)]
  have e5 : ∀ i, 0 ≤ i → i < 3 → (fs_cp (fs_cp (fs_cp (fs_cp (fs_cp (fs_cp (fs_up (fs_up M b 0 (M c 0)) b 1 ((fs_up M b 0 (M c 0)) c 1)) (c + 1) (b + 1) 8) (c + 2) (b + 2) 30) (c + 3) (b + 3) 24) (c + 4) (b + 4) 36) (c + 5) (b + 5) 3) (c + 6) (b + 6) 36) (b + 5) i = M (c + 5) i := fun i h0 h1 => by rw [fs_cp_o (show b + 5 ≠ b + 6 by omega), fs_cp_i h0 h1, fs_cp_o (show c + 5 ≠ b + 4 by omega), fs_cp_o (show c + 5 ≠ b + 3 by omega), fs_cp_o (show c + 5 ≠ b + 2 by omega), fs_cp_o (show c + 5 ≠ b + 1 by omega), x0 (c + 5) (by omega)]
  have e6 : ∀ i, 0 ≤ i → i < 36 → (fs_cp (fs_cp (fs_cp (fs_cp (fs_cp (fs_cp (fs_up (fs_up M b 0 (M c 0)) b 1 ((fs_up M b 0 (M c 0)) c 1)) (c + 1) (b + 1) 8) (c + 2) (b + 2) 30) (c + 3) (b + 3) 24) (c + 4) (b + 4) 36) (c + 5) (b + 5) 3) (c + 6) (b + 6) 36) (b + 6) i = M (c + 6) i := fun i h0 h1 => by rw [fs_cp_i h0 h1, fs_cp_o (show c + 6 ≠ b + 5 by omega), fs_cp_o (show c + 6 ≠ b + 4 by omega), fs_cp_o (show c + 6 ≠ b + 3 by omega), fs_cp_o (show c + 6 ≠ b + 2 by omega), fs_cp_o (show c + 6 ≠ b + 1 by omega), x0 (c + 6) (by omega)]
  refine ⟨fun r q => by rw [fs_cp_o (show r ≠ b + 6 by omega), fs_cp_o (show r ≠ b + 5 by omega), fs_cp_o (show r ≠ b + 4 by omega), fs_cp_o (show r ≠ b + 3 by omega), fs_cp_o (show r ≠ b + 2 by omega), fs_cp_o (show r ≠ b + 1 by omega), x0 r (by omega)], fun N hN h => ?_⟩
  have hsh := hN.2.2.2.2.2.2.1
  obtain ⟨v0, v1, vcv, vfc, vhd, vln, vlc, vit⟩ := h
  refine ⟨?_, ?_, fun a a0 a1 => ?_, fun h k h0 h1 k0 k1 z => ?_, fun h a h0 h1 a0 a1 => ?_, fun h x h0 h1 o0 o1 => ?_, fun s s0 s1 => ?_, fun s p w s0 s1 p0 p1 w0 w1 => ?_⟩
  · rw [f0, fs_up_at, if_neg (by omega), fs_up_at, if_pos rfl]
    exact v0
  · rw [f0, fs_up_at, if_pos rfl, fs_up_other (by omega)]
    exact v1
  · rw [e1 _ (by omega) (by omega), e1 _ (by omega) (by omega)]
    exact vcv a a0 a1
  · rw [e2 _ (by omega) (by omega)]
    exact vfc h k h0 h1 k0 k1 z
  · rw [e3 _ (by omega) (by omega)]
    exact vhd h a h0 h1 a0 a1
  · rw [e4 _ (by omega) (by omega)]
    exact vln h x h0 h1 o0 o1
  · rw [e5 _ (by omega) (by omega)]
    exact vlc s s0 s1
  · have := hsh s s0 s1
    rw [e6 _ (by omega) (by omega)]
    exact vit s p w s0 s1 p0 p1 w0 w1
theorem fs_c_bcopy {d : Nat} {M : fs_M} {Q : Option fs_V → fs_M → Prop} {b : Nat} {c : Nat}  (hb : fs_bk b) (hc : fs_bk c) (hne : b ≠ c) (hq0 : ∀ (M2 : fs_M), (∀ r, (r < b ∨ b + 6 < r) → M2 r = M r) → (∀ N, fs_NI N → vw c M N → vw b M2 N) → Q none M2) : fs_W (d + 2) 1 0 [some (.inr (.ref b)), some (.inr (.ref c))] [] M Q := by
  refine fs_r_call (sta := true) (idx := 37) (as := [.inr (.ref (c + 1)), .inr (.ref (b + 1))]) (rest := []) (L1 := [some (.inr (.ref b)), some (.inr (.ref c))]) (st1 := [.inr (.ref (b + 1)), .inr (.ref (c + 1))]) (M1 := (fs_up (fs_up M b 0 (M c 0)) b 1 ((fs_up M b 0 (M c 0)) c 1))) (ob := [c < fs_N ∧ fs_kd c = 0, b < fs_N ∧ fs_kd b = 0, c < fs_N ∧ fs_kd c = 0, b < fs_N ∧ fs_kd b = 0, c < fs_N ∧ fs_kd c = 0, b < fs_N ∧ fs_kd b = 0]) rfl rfl (fs_exA 6 (o1 := [c < fs_N ∧ fs_kd c = 0, b < fs_N ∧ fs_kd b = 0]) (L1 := [some (.inr (.ref b)), some (.inr (.ref c))]) (st1 := [.inr (.ref c), .inr (.ref b)]) (M1 := (fs_up M b 0 (M c 0))) (o2 := [c < fs_N ∧ fs_kd c = 0, b < fs_N ∧ fs_kd b = 0, c < fs_N ∧ fs_kd c = 0, b < fs_N ∧ fs_kd b = 0]) rfl rfl) (fs_oc (fs_bk0 hc) (fs_oc (fs_bk0 hb) (fs_oc (fs_bk0 hc) (fs_oc (fs_bk0 hb) (fs_oc (fs_bk0 hc) (fs_oc (fs_bk0 hb) trivial)))))) rfl rfl (Nat.le_of_ble_eq_true rfl) ⟨Or.inr (Nat.le_of_ble_eq_true rfl), trivial⟩ (by decide) ?_
  refine fs_c_copyAll (n := 8) (fs_bkl1 hc) (fs_bkl1 hb) (by omega) (by omega) ?_
  refine fs_r_call (sta := true) (idx := 37) (as := [.inr (.ref (c + 2)), .inr (.ref (b + 2))]) (rest := []) (L1 := [some (.inr (.ref b)), some (.inr (.ref c))]) (st1 := [.inr (.ref (b + 2)), .inr (.ref (c + 2))]) (M1 := (fs_cp (fs_up (fs_up M b 0 (M c 0)) b 1 ((fs_up M b 0 (M c 0)) c 1)) (c + 1) (b + 1) 8)) (ob := [c < fs_N ∧ fs_kd c = 0, b < fs_N ∧ fs_kd b = 0]) rfl rfl rfl (fs_oc (fs_bk0 hc) (fs_oc (fs_bk0 hb) trivial)) rfl rfl (Nat.le_of_ble_eq_true rfl) ⟨Or.inr (Nat.le_of_ble_eq_true rfl), trivial⟩ (by decide) ?_
  refine fs_c_copyAll (n := 30) (fs_bkl2 hc) (fs_bkl2 hb) (by omega) (by omega) ?_
  refine fs_r_call (sta := true) (idx := 37) (as := [.inr (.ref (c + 3)), .inr (.ref (b + 3))]) (rest := []) (L1 := [some (.inr (.ref b)), some (.inr (.ref c))]) (st1 := [.inr (.ref (b + 3)), .inr (.ref (c + 3))]) (M1 := (fs_cp (fs_cp (fs_up (fs_up M b 0 (M c 0)) b 1 ((fs_up M b 0 (M c 0)) c 1)) (c + 1) (b + 1) 8) (c + 2) (b + 2) 30)) (ob := [c < fs_N ∧ fs_kd c = 0, b < fs_N ∧ fs_kd b = 0]) rfl rfl rfl (fs_oc (fs_bk0 hc) (fs_oc (fs_bk0 hb) trivial)) rfl rfl (Nat.le_of_ble_eq_true rfl) ⟨Or.inr (Nat.le_of_ble_eq_true rfl), trivial⟩ (by decide) ?_
  refine fs_c_copyAll (n := 24) (fs_bkl3 hc) (fs_bkl3 hb) (by omega) (by omega) ?_
  refine fs_r_call (sta := true) (idx := 37) (as := [.inr (.ref (c + 4)), .inr (.ref (b + 4))]) (rest := []) (L1 := [some (.inr (.ref b)), some (.inr (.ref c))]) (st1 := [.inr (.ref (b + 4)), .inr (.ref (c + 4))]) (M1 := (fs_cp (fs_cp (fs_cp (fs_up (fs_up M b 0 (M c 0)) b 1 ((fs_up M b 0 (M c 0)) c 1)) (c + 1) (b + 1) 8) (c + 2) (b + 2) 30) (c + 3) (b + 3) 24)) (ob := [c < fs_N ∧ fs_kd c = 0, b < fs_N ∧ fs_kd b = 0]) rfl rfl rfl (fs_oc (fs_bk0 hc) (fs_oc (fs_bk0 hb) trivial)) rfl rfl (Nat.le_of_ble_eq_true rfl) ⟨Or.inr (Nat.le_of_ble_eq_true rfl), trivial⟩ (by decide) ?_
  refine fs_c_copyAll (n := 36) (fs_bkl4 hc) (fs_bkl4 hb) (by omega) (by omega) ?_
  refine fs_r_call (sta := true) (idx := 37) (as := [.inr (.ref (c + 5)), .inr (.ref (b + 5))]) (rest := []) (L1 := [some (.inr (.ref b)), some (.inr (.ref c))]) (st1 := [.inr (.ref (b + 5)), .inr (.ref (c + 5))]) (M1 := (fs_cp (fs_cp (fs_cp (fs_cp (fs_up (fs_up M b 0 (M c 0)) b 1 ((fs_up M b 0 (M c 0)) c 1)) (c + 1) (b + 1) 8) (c + 2) (b + 2) 30) (c + 3) (b + 3) 24) (c + 4) (b + 4) 36)) (ob := [c < fs_N ∧ fs_kd c = 0, b < fs_N ∧ fs_kd b = 0]) rfl rfl rfl (fs_oc (fs_bk0 hc) (fs_oc (fs_bk0 hb) trivial)) rfl rfl (Nat.le_of_ble_eq_true rfl) ⟨Or.inr (Nat.le_of_ble_eq_true rfl), trivial⟩ (by decide) ?_
  refine fs_c_copyAll (n := 3) (fs_bkl5 hc) (fs_bkl5 hb) (by omega) (by omega) ?_
  refine fs_r_call (sta := true) (idx := 37) (as := [.inr (.ref (c + 6)), .inr (.ref (b + 6))]) (rest := []) (L1 := [some (.inr (.ref b)), some (.inr (.ref c))]) (st1 := [.inr (.ref (b + 6)), .inr (.ref (c + 6))]) (M1 := (fs_cp (fs_cp (fs_cp (fs_cp (fs_cp (fs_up (fs_up M b 0 (M c 0)) b 1 ((fs_up M b 0 (M c 0)) c 1)) (c + 1) (b + 1) 8) (c + 2) (b + 2) 30) (c + 3) (b + 3) 24) (c + 4) (b + 4) 36) (c + 5) (b + 5) 3)) (ob := [c < fs_N ∧ fs_kd c = 0, b < fs_N ∧ fs_kd b = 0]) rfl rfl rfl (fs_oc (fs_bk0 hc) (fs_oc (fs_bk0 hb) trivial)) rfl rfl (Nat.le_of_ble_eq_true rfl) ⟨Or.inr (Nat.le_of_ble_eq_true rfl), trivial⟩ (by decide) ?_
  refine fs_c_copyAll (n := 36) (fs_bkl6 hc) (fs_bkl6 hb) (by omega) (by omega) ?_
  refine fs_r_ret (L1 := [some (.inr (.ref b)), some (.inr (.ref c))]) (M1 := (fs_cp (fs_cp (fs_cp (fs_cp (fs_cp (fs_cp (fs_up (fs_up M b 0 (M c 0)) b 1 ((fs_up M b 0 (M c 0)) c 1)) (c + 1) (b + 1) 8) (c + 2) (b + 2) 30) (c + 3) (b + 3) 24) (c + 4) (b + 4) 36) (c + 5) (b + 5) 3) (c + 6) (b + 6) 36)) (ob := []) rfl rfl trivial ?_
  obtain ⟨f, v⟩ := vw_cp (M := M) hb hc hne
  exact hq0 _ f v

/-- what is kept to be taken back: n rows, the latest last -/
def us (M : fs_M) (n : Int) (U : Int → Int → Int) : Prop := M 0 6 = n ∧ (0 ≤ n ∧ n ≤ 12) ∧ (0 ≤ M 0 5 ∧ M 0 5 < 12) ∧ ∀ j, 0 ≤ j → j < n → fs_NI (U j) ∧ vw (40 + 7 * ((M 0 5 + 12 - n + j) % 12).toNat) M (U j)
def us_n (n : Int) : Int := if n = 12 then 12 else n + 1
def us_u (n : Int) (U : Int → Int → Int) (N : Int → Int) : Int → Int → Int := fun j => if j = us_n n - 1 then N else if n = 12 then U (j + 1) else U j
theorem us.fr {M M2 : fs_M} {n : Int} {U : Int → Int → Int} (h : us M n U) (f0 : M2 0 5 = M 0 5 ∧ M2 0 6 = M 0 6) (f : ∀ r, 40 ≤ r → r < 124 → M2 r = M r) : us M2 n U := by
  obtain ⟨h1, h2, h3, h4⟩ := h
  refine ⟨by rw [f0.2]; exact h1, h2, by rw [f0.1]; exact h3, fun j j0 j1 => ?_⟩
  rw [f0.1]
  refine ⟨(h4 j j0 j1).1, (h4 j j0 j1).2.fr (fun r q1 q2 => f r (by omega) (by omega))⟩
/-- an act: the Book says another row, the old one is kept; else nothing but scratch has changed -/
def ca (M M2 : fs_M) (N2 : Int → Int) (n : Int) (U : Int → Int → Int) (N : Int → Int) : Prop := vw 5 M2 N2 ∧ us M2 (us_n n) (us_u n U N) ∧ ∀ r, (r = 1 ∨ r = 2 ∨ 123 < r) → M2 r = M r
theorem fs_bk_i {i : Int} (h : 0 ≤ i ∧ i < 12) : fs_bk (40 + 7 * i.toNat) := by
  unfold fs_bk
  omega
theorem fs_c_remember {d : Nat} {M : fs_M} {Q : Option fs_V → fs_M → Prop}  {N : Int → Int} {n : Int} {U : Int → Int → Int} (hV : vw 5 M N) (hN : fs_NI N) (hU : us M n U) (hq0 : ∀ (M2 : fs_M), (∀ r, r ≠ 0 → (r < 40 ∨ 123 < r) → M2 r = M r) → (us M2 (us_n n) (us_u n U N)) → Q none M2) : fs_W (d + 3) 139 0 [some (.inr (.ref 0))] [] M Q := by
  obtain ⟨u1, u2, u3, u4⟩ := id hU
  have hbk := fs_bk_i u3
  refine fs_r_call (sta := false) (idx := 85) (as := [.inr (.ref (40 + 7 * (M 0 5).toNat)), .inr (.ref 5)]) (rest := []) (L1 := [some (.inr (.ref 0))]) (st1 := [.inr (.ref 5), .inr (.ref (40 + 7 * (M 0 5).toNat))]) (M1 := M) (ob := [0 < fs_N ∧ fs_kd 0 = 5, 0 < fs_N ∧ fs_kd 0 = 5, 19 = 19 ∧ (0 : Int) ≤ (M 0 5) ∧ (M 0 5) < 12, 0 < fs_N ∧ fs_kd 0 = 5]) rfl rfl rfl (fs_oc fs_ob0 (fs_oc fs_ob0 (fs_oc ⟨rfl, by omega, by omega⟩ (fs_oc fs_ob0 trivial)))) rfl rfl (Nat.le_of_ble_eq_true rfl) ⟨Or.inr (Nat.le_of_ble_eq_true rfl), Or.inr (fs_bk0 hbk)⟩ (by decide) ?_
  refine fs_c_bcopy (by first | exact Or.inl rfl | exact Or.inr (Or.inl rfl) | assumption) (by first | exact Or.inl rfl | exact Or.inr (Or.inl rfl) | assumption) (by omega) (fun (V : fs_M) (cf : ∀ r, (r < (40 + 7 * (M 0 5).toNat) ∨ (40 + 7 * (M 0 5).toNat) + 6 < r) → V r = M r) (cv : ∀ N, fs_NI N → vw 5 M N → vw (40 + 7 * (M 0 5).toNat) V N) => ?_)
  have k0 : V 0 = M 0 := cf 0 (by omega)
  have a5 := congrFun k0 5
  have a6 := congrFun k0 6
  refine fs_r_nat (v := .inl (min 12 ((V 0 6) + 1))) (sta := true) (idx := 166) (as := [.inl 12, .inl ((V 0 6) + 1)]) (rest := [.inr (.ref 0)]) (L1 := [some (.inr (.ref 0))]) (st1 := [.inl ((V 0 6) + 1), .inl 12, .inr (.ref 0)]) (M1 := (fs_up V 0 5 (((V 0 5) + 1) % 12))) (ob := [0 < fs_N ∧ fs_kd 0 = 5, fs_rg ((V 0 5) + 1), (0 : Int) ≤ ((V 0 5) + 1), (0 : Int) < 12, 0 < fs_N ∧ fs_kd 0 = 5, 0 < fs_N ∧ fs_kd 0 = 5, fs_rg ((V 0 6) + 1)]) rfl rfl (fs_exA 6 (o1 := [0 < fs_N ∧ fs_kd 0 = 5, fs_rg ((V 0 5) + 1)]) (L1 := [some (.inr (.ref 0))]) (st1 := [.inl 12, .inl ((V 0 5) + 1), .inr (.ref 0)]) (M1 := V) (o2 := [(0 : Int) ≤ ((V 0 5) + 1), (0 : Int) < 12, 0 < fs_N ∧ fs_kd 0 = 5, 0 < fs_N ∧ fs_kd 0 = 5, fs_rg ((V 0 6) + 1)]) rfl (fs_exA 6 (o1 := [(0 : Int) ≤ ((V 0 5) + 1), (0 : Int) < 12, 0 < fs_N ∧ fs_kd 0 = 5, 0 < fs_N ∧ fs_kd 0 = 5]) (L1 := [some (.inr (.ref 0))]) (st1 := [.inl (V 0 6), .inl 12, .inr (.ref 0)]) (M1 := (fs_up V 0 5 (((V 0 5) + 1) % 12))) (o2 := [fs_rg ((V 0 6) + 1)]) rfl rfl)) (fs_oc fs_ob0 (fs_oc ⟨by omega, by omega⟩ (fs_oc (by omega) (fs_oc (by omega) (fs_oc fs_ob0 (fs_oc fs_ob0 (fs_oc ⟨by omega, by omega⟩ trivial))))))) rfl rfl (Nat.le_of_ble_eq_true rfl) ⟨Or.inl (by decide), trivial⟩ (by decide) (rfl) ?_
  refine fs_r_ret (L1 := [some (.inr (.ref 0))]) (M1 := (fs_up (fs_up V 0 5 (((V 0 5) + 1) % 12)) 0 6 (min 12 ((V 0 6) + 1)))) (ob := [0 < fs_N ∧ fs_kd 0 = 5]) rfl rfl (fs_oc fs_ob0 trivial) ?_
  have p5 : (V 0 5 + 1) % 12 = (M 0 5 + 1) % 12 := by rw [a5]
  have e6 : min 12 ((M 0 6) + 1) = us_n n := by unfold us_n; split <;> omega
  refine hq0 _ (fun r q1 q2 => by rw [fs_up_other q1, fs_up_other q1]; exact cf r (by omega)) ⟨?_, ?_, ?_, fun j j0 j1 => ?_⟩
  · rw [fs_up_at, if_pos rfl, ← e6]
    show min 12 ((V 0 6) + 1) = _
    rw [a6]
  · unfold us_n
    split <;> omega
  · rw [fs_up_at, if_neg (by omega), fs_up_at, if_pos rfl]
    omega
  · rw [fs_up_at, if_neg (by omega), fs_up_at, if_pos rfl, p5]
    have vr : ∀ (b : Nat) (K : Int → Int) (x y : Int), vw b V K → 1 ≤ b → vw b (fs_up (fs_up V 0 5 x) 0 6 y) K := fun b K x y h hb => h.fr (fun r q1 q2 => by rw [fs_up_other (by omega), fs_up_other (by omega)])
    unfold us_u us_n
    unfold us_n at j1
    by_cases z : j = (if n = 12 then 12 else n + 1) - 1
    · rw [if_pos z]
      have ix : ((M 0 5 + 1) % 12 + 12 - (if n = 12 then 12 else n + 1) + j) % 12 = M 0 5 := by split at z <;> split <;> omega
      rw [ix]
      exact ⟨hN, vr _ _ _ _ (cv N hN hV) (by omega)⟩
    · rw [if_neg z]
      by_cases y : n = 12
      · rw [if_pos y] at z j1 ⊢
        rw [if_pos y]
        have w := u4 (j + 1) (by omega) (by omega)
        have ix : ((M 0 5 + 1) % 12 + 12 - 12 + j) % 12 = (M 0 5 + 12 - n + (j + 1)) % 12 := by omega
        rw [ix]
        exact ⟨w.1, vr _ _ _ _ (w.2.fr (fun r q1 q2 => cf r (by omega))) (by omega)⟩
      · rw [if_neg y] at z j1 ⊢
        rw [if_neg y]
        have w := u4 j (by omega) (by omega)
        have ix : ((M 0 5 + 1) % 12 + 12 - (n + 1) + j) % 12 = (M 0 5 + 12 - n + j) % 12 := by omega
        rw [ix]
        exact ⟨w.1, vr _ _ _ _ (w.2.fr (fun r q1 q2 => cf r (by omega))) (by omega)⟩
