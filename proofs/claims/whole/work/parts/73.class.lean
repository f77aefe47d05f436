theorem fs_c_emptyHouse {d : Nat} {M : fs_M} {Q : Option fs_V → fs_M → Prop} {h : Int}  (hh : 0 ≤ h ∧ h < 6) (hq0 : ∀ (M2 : fs_M), (∀ r, r ≠ 7 → r ≠ 8 → r ≠ 9 → M2 r = M r) → (∀ q, M2 7 q = if h * 5 ≤ q ∧ q < h * 5 + 3 then 0 else M 7 q) → (∀ q, M2 8 q = if h * 4 ≤ q ∧ q < h * 4 + 4 then 0 else M 8 q) → (∀ a o, 0 ≤ a → a < 6 → 0 ≤ o → o < 6 → M2 9 (a * 6 + o) = if a = h ∨ o = h then 0 else M 9 (a * 6 + o)) → Q none M2) : fs_W (d + 1) 29 0 [some (.inr (.ref 5)), some (.inl h), none] [] M Q := by
  refine fs_r_call (sta := false) (idx := 69) (as := [.inr (.ref 5), .inl h, .inl 0, .inl 0]) (rest := []) (L1 := [some (.inr (.ref 5)), some (.inl h), none]) (st1 := [.inl 0, .inl 0, .inl h, .inr (.ref 5)]) (M1 := M) (ob := []) rfl rfl rfl trivial rfl rfl (Nat.le_of_ble_eq_true rfl) ⟨Or.inr (Nat.le_of_ble_eq_true rfl), Or.inr fs_ob5⟩ (by decide) ?_
  refine fs_c_setFact (by first | exact Or.inl rfl | exact Or.inr (Or.inl rfl) | assumption) (by omega) (by omega) ?_
  refine fs_r_call (sta := false) (idx := 69) (as := [.inr (.ref 5), .inl h, .inl 1, .inl 0]) (rest := []) (L1 := [some (.inr (.ref 5)), some (.inl h), none]) (st1 := [.inl 0, .inl 1, .inl h, .inr (.ref 5)]) (M1 := (fs_up M 7 ((h * 5) + 0) 0)) (ob := []) rfl rfl rfl trivial rfl rfl (Nat.le_of_ble_eq_true rfl) ⟨Or.inr (Nat.le_of_ble_eq_true rfl), Or.inr fs_ob5⟩ (by decide) ?_
  refine fs_c_setFact (by first | exact Or.inl rfl | exact Or.inr (Or.inl rfl) | assumption) (by omega) (by omega) ?_
  refine fs_r_call (sta := false) (idx := 69) (as := [.inr (.ref 5), .inl h, .inl 2, .inl 0]) (rest := []) (L1 := [some (.inr (.ref 5)), some (.inl h), none]) (st1 := [.inl 0, .inl 2, .inl h, .inr (.ref 5)]) (M1 := (fs_up (fs_up M 7 ((h * 5) + 0) 0) 7 ((h * 5) + 1) 0)) (ob := []) rfl rfl rfl trivial rfl rfl (Nat.le_of_ble_eq_true rfl) ⟨Or.inr (Nat.le_of_ble_eq_true rfl), Or.inr fs_ob5⟩ (by decide) ?_
  refine fs_c_setFact (by first | exact Or.inl rfl | exact Or.inr (Or.inl rfl) | assumption) (by omega) (by omega) ?_
  refine fs_r_nop (L1 := [some (.inr (.ref 5)), some (.inl h), some (.inl 0)]) (st1 := []) (M1 := (fs_up (fs_up (fs_up M 7 ((h * 5) + 0) 0) 7 ((h * 5) + 1) 0) 7 ((h * 5) + 2) 0)) (ob := [2 < 3]) rfl rfl (fs_oc (by decide) trivial) ?_
  have loop23 : ∀ (n23 : Nat) (k : Int) (MA : fs_M), (0 ≤ k ∧ k ≤ 4) → (∀ r, r ≠ 7 → r ≠ 8 → MA r = M r) → (∀ q, MA 7 q = if h * 5 ≤ q ∧ q < h * 5 + 3 then 0 else M 7 q) → (∀ q, MA 8 q = if h * 4 ≤ q ∧ q < h * 4 + k then 0 else M 8 q) → 4 - k < (n23 : Int) → fs_W (d + 1) 29 23 [some (.inr (.ref 5)), some (.inl h), some (.inl k)] [] MA Q := by
    intro n23
    induction n23 with
    | zero =>
      intro k MA iA fA cA7 cA8 hm23
      exfalso
      omega
    | succ n23 ih23 =>
      intro k MA iA fA cA7 cA8 hm23
      refine fs_r_icmp (a := k) (y := 4) (L1 := [some (.inr (.ref 5)), some (.inl h), some (.inl k)]) (st1 := []) (M1 := MA) (ob := []) rfl rfl trivial (fun (h1 : 4 ≤ k) => ?_) (fun (h1 : ¬ (4 ≤ k)) => ?_)
      · refine fs_r_nop (L1 := [some (.inr (.ref 5)), some (.inl h), some (.inl 0)]) (st1 := []) (M1 := MA) (ob := [2 < 3]) rfl rfl (fs_oc (by decide) trivial) ?_
        have loop43 : ∀ (n43 : Nat) (t : Int) (MB : fs_M), (0 ≤ t ∧ t ≤ 6) → (∀ r, r ≠ 9 → MB r = MA r) → (∀ a o, 0 ≤ a → a < 6 → 0 ≤ o → o < 6 → MB 9 (a * 6 + o) = if (a = h ∧ o < t) ∨ (o = h ∧ a < t) then 0 else M 9 (a * 6 + o)) → 6 - t < (n43 : Int) → fs_W (d + 1) 29 43 [some (.inr (.ref 5)), some (.inl h), some (.inl t)] [] MB Q := by
          intro n43
          induction n43 with
          | zero =>
            intro t MB iB fB cB hm43
            exfalso
            omega
          | succ n43 ih43 =>
            intro t MB iB fB cB hm43
            refine fs_r_icmp (a := t) (y := 6) (L1 := [some (.inr (.ref 5)), some (.inl h), some (.inl t)]) (st1 := []) (M1 := MB) (ob := []) rfl rfl trivial (fun (h2 : 6 ≤ t) => ?_) (fun (h2 : ¬ (6 ≤ t)) => ?_)
            · refine fs_r_ret (L1 := [some (.inr (.ref 5)), some (.inl h), some (.inl t)]) (M1 := MB) (ob := []) rfl rfl trivial ?_
              refine hq0 _ (fun r q1 q2 q3 => by rw [fB r q3]; exact fA r q1 q2) (fun q => by rw [fB 7 (by decide)]; exact cA7 q) (fun q => ?_) (fun a o a0 a1 o0 o1 => ?_)
              · rw [fB 8 (by decide), cA8 q]
                by_cases w : h * 4 ≤ q ∧ q < h * 4 + k
                · rw [if_pos w, if_pos (by omega)]
                · rw [if_neg w, if_neg (by omega)]
              · rw [cB a o a0 a1 o0 o1]
                by_cases w : (a = h ∧ o < t) ∨ (o = h ∧ a < t)
                · rw [if_pos w, if_pos (by omega)]
                · rw [if_neg w, if_neg (by omega)]
            refine fs_r_call (sta := false) (idx := 76) (as := [.inr (.ref 5), .inl h, .inl t, .inl 0]) (rest := []) (L1 := [some (.inr (.ref 5)), some (.inl h), some (.inl t)]) (st1 := [.inl 0, .inl t, .inl h, .inr (.ref 5)]) (M1 := MB) (ob := []) rfl rfl rfl trivial rfl rfl (Nat.le_of_ble_eq_true rfl) ⟨Or.inr (Nat.le_of_ble_eq_true rfl), Or.inr fs_ob5⟩ (by decide) ?_
            refine fs_c_setLoan (by first | exact Or.inl rfl | exact Or.inr (Or.inl rfl) | assumption) (by omega) (by omega) ?_
            refine fs_r_call (sta := false) (idx := 76) (as := [.inr (.ref 5), .inl t, .inl h, .inl 0]) (rest := []) (L1 := [some (.inr (.ref 5)), some (.inl h), some (.inl t)]) (st1 := [.inl 0, .inl h, .inl t, .inr (.ref 5)]) (M1 := (fs_up MB 9 ((h * 6) + t) 0)) (ob := []) rfl rfl rfl trivial rfl rfl (Nat.le_of_ble_eq_true rfl) ⟨Or.inr (Nat.le_of_ble_eq_true rfl), Or.inr fs_ob5⟩ (by decide) ?_
            refine fs_c_setLoan (by first | exact Or.inl rfl | exact Or.inr (Or.inl rfl) | assumption) (by omega) (by omega) ?_
            refine fs_r_goto (L1 := [some (.inr (.ref 5)), some (.inl h), some (.inl (t + 1))]) (st1 := []) (M1 := (fs_up (fs_up MB 9 ((h * 6) + t) 0) 9 ((t * 6) + h) 0)) (ob := [fs_rg (t + 1)]) rfl rfl (fs_oc ⟨by omega, by omega⟩ trivial) ?_
            exact ih43 ((t + 1)) (fs_up (fs_up MB 9 ((h * 6) + t) 0) 9 ((t * 6) + h) 0) (by omega) (fun r q => by rw [fs_up_other q, fs_up_other q]; exact fB r q) (fun a o a0 a1 o0 o1 => by
                 rw [fs_up_at, fs_up_at]
                 by_cases z : a * 6 + o = t * 6 + h
                 · rw [if_pos z, if_pos (by omega)]
                 · rw [if_neg z]
                   by_cases z2 : a * 6 + o = h * 6 + t
                   · rw [if_pos z2, if_pos (by omega)]
                   · rw [if_neg z2, cB a o a0 a1 o0 o1]
                     by_cases w : (a = h ∧ o < t) ∨ (o = h ∧ a < t)
                     · rw [if_pos w, if_pos (by omega)]
                     · rw [if_neg w, if_neg (by omega)]) (by omega)
        exact loop43 (((6 - (0)) : Int) + 1).toNat (0) MA (by omega) (fun r _ => rfl) (fun a o a0 a1 o0 o1 => by rw [if_neg (by omega), fA 9 (by decide) (by decide)]) (by omega)
      refine fs_r_call (sta := false) (idx := 73) (as := [.inr (.ref 5), .inl h, .inl k, .inl 0]) (rest := []) (L1 := [some (.inr (.ref 5)), some (.inl h), some (.inl k)]) (st1 := [.inl 0, .inl k, .inl h, .inr (.ref 5)]) (M1 := MA) (ob := []) rfl rfl rfl trivial rfl rfl (Nat.le_of_ble_eq_true rfl) ⟨Or.inr (Nat.le_of_ble_eq_true rfl), Or.inr fs_ob5⟩ (by decide) ?_
      refine fs_c_setHolding (by first | exact Or.inl rfl | exact Or.inr (Or.inl rfl) | assumption) (by omega) (by omega) ?_
      refine fs_r_goto (L1 := [some (.inr (.ref 5)), some (.inl h), some (.inl (k + 1))]) (st1 := []) (M1 := (fs_up MA 8 ((h * 4) + k) 0)) (ob := [fs_rg (k + 1)]) rfl rfl (fs_oc ⟨by omega, by omega⟩ trivial) ?_
      exact ih23 ((k + 1)) (fs_up MA 8 ((h * 4) + k) 0) (by omega) (fun r q1 q2 => by rw [fs_up_other q2]; exact fA r q1 q2) (fun q => by rw [fs_up_other (by decide)]; exact cA7 q) (fun q => by rw [fs_up_at]; by_cases z : q = h * 4 + k; (rw [if_pos z, if_pos (by omega)]); (rw [if_neg z, cA8 q]; by_cases w : h * 4 ≤ q ∧ q < h * 4 + k; (rw [if_pos w, if_pos (by omega)]); (rw [if_neg w, if_neg (by omega)]))) (by omega)
  exact loop23 (((4 - (0)) : Int) + 1).toNat (0) (fs_up (fs_up (fs_up M 7 ((h * 5) + 0) 0) 7 ((h * 5) + 1) 0) 7 ((h * 5) + 2) 0) (by omega) (fun r q1 q2 => by rw [fs_up_other q1, fs_up_other q1, fs_up_other q1]) (fun q => by rw [fs_up_at, fs_up_at, fs_up_at]; by_cases z : h * 5 ≤ q ∧ q < h * 5 + 3; (rw [if_pos z]; split; rfl; split; rfl; split; rfl; (exfalso; omega)); (rw [if_neg z, if_neg (by omega), if_neg (by omega), if_neg (by omega)])) (fun q => by rw [fs_up_other (by decide), fs_up_other (by decide), fs_up_other (by decide), if_neg (by omega)]) (by omega)

theorem fs_c_removeHouse {d : Nat} {M : fs_M} {Q : Option fs_V → fs_M → Prop} {g : Int}  (hg : 0 ≤ g ∧ g < M 5 1 ∧ M 5 1 ≤ 6) (hq0 : ∀ (M2 : fs_M), (∀ r, r ≠ 5 → r ≠ 7 → r ≠ 8 → r ≠ 9 → M2 r = M r) → (M2 5 1 = M 5 1 - 1 ∧ M2 5 0 = M 5 0) → (∀ h k, 0 ≤ h → h < 6 → 0 ≤ k → k < 5 → M2 7 (h * 5 + k) = if h < M 5 1 - 1 then M 7 (gs_h g h * 5 + k) else if h = M 5 1 - 1 ∧ k < 3 then 0 else M 7 (h * 5 + k)) → (∀ h k, 0 ≤ h → h < 6 → 0 ≤ k → k < 4 → M2 8 (h * 4 + k) = if h < M 5 1 - 1 then M 8 (gs_h g h * 4 + k) else if h = M 5 1 - 1 then 0 else M 8 (h * 4 + k)) → (∀ a o, 0 ≤ a → a < 6 → 0 ≤ o → o < 6 → M2 9 (a * 6 + o) = if a = M 5 1 - 1 ∨ o = M 5 1 - 1 then 0 else if a < M 5 1 - 1 ∧ o < M 5 1 - 1 then M 9 (gs_h g a * 6 + gs_h g o) else M 9 (a * 6 + o)) → Q none M2) : fs_W (d + 2) 31 0 [some (.inr (.ref 5)), some (.inl g), none, none, none, none] [] M Q := by
  refine fs_r_nop (L1 := [some (.inr (.ref 5)), some (.inl g), some (.inl ((M 5 1) - 1)), some (.inl 0), none, none]) (st1 := []) (M1 := M) (ob := [5 < fs_N ∧ fs_kd 5 = 0, fs_rg ((M 5 1) - 1), 2 < 6, 3 < 6]) rfl rfl (fs_oc fs_ob5 (fs_oc ⟨by omega, by omega⟩ (fs_oc (by decide) (fs_oc (by decide) trivial)))) ?_
  have loop9 : ∀ (n9 : Nat) (i : Int) (zl4 : Option fs_V) (zl5 : Option fs_V) (M3 : fs_M), (0 ≤ i ∧ i ≤ (M 5 1 - 1)) → (∀ r, r ≠ 7 → r ≠ 8 → r ≠ 9 → M3 r = M r) → (∀ h x, 0 ≤ h → h < 6 → 0 ≤ x → x < 5 → M3 7 (h * 5 + x) = if h < i then M 7 (gs_h g h * 5 + x) else M 7 (h * 5 + x)) → (∀ h x, 0 ≤ h → h < 6 → 0 ≤ x → x < 4 → M3 8 (h * 4 + x) = if h < i then M 8 (gs_h g h * 4 + x) else M 8 (h * 4 + x)) → (∀ a o, 0 ≤ a → a < 6 → 0 ≤ o → o < 6 → M3 9 (a * 6 + o) = if a < i ∧ o < (M 5 1 - 1) then M 9 (gs_h g a * 6 + gs_h g o) else M 9 (a * 6 + o)) → (M 5 1 - 1) - i < (n9 : Int) → fs_W (d + 2) 31 9 [some (.inr (.ref 5)), some (.inl g), some (.inl ((M 5 1) - 1)), some (.inl i), zl4, zl5] [] M3 Q := by
    intro n9
    induction n9 with
    | zero =>
      intro i zl4 zl5 M3 i3 f3 c3 d3 e3 hm9
      exfalso
      omega
    | succ n9 ih9 =>
      intro i zl4 zl5 M3 i3 f3 c3 d3 e3 hm9
      refine fs_r_icmp (a := i) (y := ((M 5 1) - 1)) (L1 := [some (.inr (.ref 5)), some (.inl g), some (.inl ((M 5 1) - 1)), some (.inl i), zl4, zl5]) (st1 := []) (M1 := M3) (ob := []) rfl rfl trivial (fun (h1 : ((M 5 1) - 1) ≤ i) => ?_) (fun (h1 : ¬ (((M 5 1) - 1) ≤ i)) => ?_)
      · refine fs_r_call (sta := false) (idx := 82) (as := [.inr (.ref 5), .inl ((M 5 1) - 1)]) (rest := []) (L1 := [some (.inr (.ref 5)), some (.inl g), some (.inl ((M 5 1) - 1)), some (.inl i), zl4, zl5]) (st1 := [.inl ((M 5 1) - 1), .inr (.ref 5)]) (M1 := M3) (ob := []) rfl rfl rfl trivial rfl rfl (Nat.le_of_ble_eq_true rfl) ⟨Or.inr (Nat.le_of_ble_eq_true rfl), Or.inr fs_ob5⟩ (by decide) ?_
        refine fs_c_emptyHouse (by omega) (fun (W : fs_M) (wf : ∀ r, r ≠ 7 → r ≠ 8 → r ≠ 9 → W r = M3 r) (w7 : ∀ q, W 7 q = if ((M 5 1) - 1) * 5 ≤ q ∧ q < ((M 5 1) - 1) * 5 + 3 then 0 else M3 7 q) (w8 : ∀ q, W 8 q = if ((M 5 1) - 1) * 4 ≤ q ∧ q < ((M 5 1) - 1) * 4 + 4 then 0 else M3 8 q) (w9 : ∀ a o, 0 ≤ a → a < 6 → 0 ≤ o → o < 6 → W 9 (a * 6 + o) = if a = ((M 5 1) - 1) ∨ o = ((M 5 1) - 1) then 0 else M3 9 (a * 6 + o)) => ?_)
        have k5 := wf 5 (by decide) (by decide) (by decide)
        have m5 := f3 5 (by decide) (by decide) (by decide)
        refine fs_r_ret (L1 := [some (.inr (.ref 5)), some (.inl g), some (.inl ((M 5 1) - 1)), some (.inl i), zl4, zl5]) (M1 := (fs_up W 5 1 ((M 5 1) - 1))) (ob := [5 < fs_N ∧ fs_kd 5 = 0]) rfl rfl (fs_oc fs_ob5 trivial) ?_
        refine hq0 _ (fun r q1 q2 q3 q4 => by rw [fs_up_other q1, wf r q2 q3 q4]; exact f3 r q2 q3 q4) ⟨by rw [fs_up_at, if_pos rfl], by rw [fs_up_at, if_neg (by omega), k5, m5]⟩ (fun h x h0 h1 x0 x1 => ?_) (fun h x h0 h1 x0 x1 => ?_) (fun a o a0 a1 o0 o1 => ?_)
        · rw [fs_up_other (by decide), w7]
          by_cases w : h < M 5 1 - 1
          · rw [if_neg (by omega), c3 h x h0 h1 x0 x1, if_pos (by omega), if_pos w]
          · rw [if_neg w]
            by_cases y : h = M 5 1 - 1 ∧ x < 3
            · rw [if_pos y, if_pos (by omega)]
            · rw [if_neg y, if_neg (by omega), c3 h x h0 h1 x0 x1, if_neg (by omega)]
        · rw [fs_up_other (by decide), w8]
          by_cases w : h < M 5 1 - 1
          · rw [if_neg (by omega), d3 h x h0 h1 x0 x1, if_pos (by omega), if_pos w]
          · rw [if_neg w]
            by_cases y : h = M 5 1 - 1
            · rw [if_pos y, if_pos (by omega)]
            · rw [if_neg y, if_neg (by omega), d3 h x h0 h1 x0 x1, if_neg (by omega)]
        · rw [fs_up_other (by decide), w9 a o a0 a1 o0 o1]
          by_cases y : a = M 5 1 - 1 ∨ o = M 5 1 - 1
          · rw [if_pos y, if_pos y]
          · rw [if_neg y, if_neg y, e3 a o a0 a1 o0 o1]
            by_cases w : a < M 5 1 - 1 ∧ o < M 5 1 - 1
            · rw [if_pos w, if_pos (by omega)]
            · rw [if_neg w, if_neg (by omega)]
      have join26 : ∀ (sc : Int), (sc = gs_h g i) → fs_W (d + 2) 31 26 [some (.inr (.ref 5)), some (.inl g), some (.inl ((M 5 1) - 1)), some (.inl i), zl4, zl5] [.inl sc] M3 Q := by
        intro sc sc0
        have gb : 0 ≤ gs_h g i ∧ gs_h g i < 6 ∧ i ≤ gs_h g i ∧ gs_h g i < M 5 1 := by unfold gs_h; split <;> omega
        rw [← sc0] at gb
        refine fs_r_nop (L1 := [some (.inr (.ref 5)), some (.inl g), some (.inl ((M 5 1) - 1)), some (.inl i), some (.inl sc), some (.inl 0)]) (st1 := []) (M1 := M3) (ob := [4 < 6, 5 < 6]) rfl rfl (fs_oc (by decide) (fs_oc (by decide) trivial)) ?_
        have loop31 : ∀ (n31 : Nat) (kk : Int) (M4 : fs_M), (0 ≤ kk ∧ kk ≤ 5) → (∀ r, r ≠ 7 → M4 r = M3 r) → (∀ h x, 0 ≤ h → h < 6 → 0 ≤ x → x < 5 → M4 7 (h * 5 + x) = if h < i ∨ (h = i ∧ x < kk) then M 7 (gs_h g h * 5 + x) else M 7 (h * 5 + x)) → 5 - kk < (n31 : Int) → fs_W (d + 2) 31 31 [some (.inr (.ref 5)), some (.inl g), some (.inl ((M 5 1) - 1)), some (.inl i), some (.inl sc), some (.inl kk)] [] M4 Q := by
          intro n31
          induction n31 with
          | zero =>
            intro kk M4 i4 f4 c4 hm31
            exfalso
            omega
          | succ n31 ih31 =>
            intro kk M4 i4 f4 c4 hm31
            refine fs_r_icmp (a := kk) (y := 5) (L1 := [some (.inr (.ref 5)), some (.inl g), some (.inl ((M 5 1) - 1)), some (.inl i), some (.inl sc), some (.inl kk)]) (st1 := []) (M1 := M4) (ob := []) rfl rfl trivial (fun (h2 : 5 ≤ kk) => ?_) (fun (h2 : ¬ (5 ≤ kk)) => ?_)
            · refine fs_r_nop (L1 := [some (.inr (.ref 5)), some (.inl g), some (.inl ((M 5 1) - 1)), some (.inl i), some (.inl sc), some (.inl 0)]) (st1 := []) (M1 := M4) (ob := [5 < 6]) rfl rfl (fs_oc (by decide) trivial) ?_
              have loop61 : ∀ (n61 : Nat) (kl : Int) (M5 : fs_M), (0 ≤ kl ∧ kl ≤ 4) → (∀ r, r ≠ 8 → M5 r = M4 r) → (∀ h x, 0 ≤ h → h < 6 → 0 ≤ x → x < 4 → M5 8 (h * 4 + x) = if h < i ∨ (h = i ∧ x < kl) then M 8 (gs_h g h * 4 + x) else M 8 (h * 4 + x)) → 4 - kl < (n61 : Int) → fs_W (d + 2) 31 61 [some (.inr (.ref 5)), some (.inl g), some (.inl ((M 5 1) - 1)), some (.inl i), some (.inl sc), some (.inl kl)] [] M5 Q := by
                intro n61
                induction n61 with
                | zero =>
                  intro kl M5 i5 f5 c5 hm61
                  exfalso
                  omega
                | succ n61 ih61 =>
                  intro kl M5 i5 f5 c5 hm61
                  refine fs_r_icmp (a := kl) (y := 4) (L1 := [some (.inr (.ref 5)), some (.inl g), some (.inl ((M 5 1) - 1)), some (.inl i), some (.inl sc), some (.inl kl)]) (st1 := []) (M1 := M5) (ob := []) rfl rfl trivial (fun (h3 : 4 ≤ kl) => ?_) (fun (h3 : ¬ (4 ≤ kl)) => ?_)
                  · refine fs_r_nop (L1 := [some (.inr (.ref 5)), some (.inl g), some (.inl ((M 5 1) - 1)), some (.inl i), some (.inl sc), some (.inl 0)]) (st1 := []) (M1 := M5) (ob := [5 < 6]) rfl rfl (fs_oc (by decide) trivial) ?_
                    have loop91 : ∀ (n91 : Nat) (j : Int) (M6 : fs_M), (0 ≤ j ∧ j ≤ (M 5 1 - 1)) → (∀ r, r ≠ 9 → M6 r = M5 r) → (∀ a o, 0 ≤ a → a < 6 → 0 ≤ o → o < 6 → M6 9 (a * 6 + o) = if (a < i ∧ o < (M 5 1 - 1)) ∨ (a = i ∧ o < j) then M 9 (gs_h g a * 6 + gs_h g o) else M 9 (a * 6 + o)) → (M 5 1 - 1) - j < (n91 : Int) → fs_W (d + 2) 31 91 [some (.inr (.ref 5)), some (.inl g), some (.inl ((M 5 1) - 1)), some (.inl i), some (.inl sc), some (.inl j)] [] M6 Q := by
                      intro n91
                      induction n91 with
                      | zero =>
                        intro j M6 i6 f6 c6 hm91
                        exfalso
                        omega
                      | succ n91 ih91 =>
                        intro j M6 i6 f6 c6 hm91
                        refine fs_r_icmp (a := j) (y := ((M 5 1) - 1)) (L1 := [some (.inr (.ref 5)), some (.inl g), some (.inl ((M 5 1) - 1)), some (.inl i), some (.inl sc), some (.inl j)]) (st1 := []) (M1 := M6) (ob := []) rfl rfl trivial (fun (h4 : ((M 5 1) - 1) ≤ j) => ?_) (fun (h4 : ¬ (((M 5 1) - 1) ≤ j)) => ?_)
                        · refine fs_r_goto (L1 := [some (.inr (.ref 5)), some (.inl g), some (.inl ((M 5 1) - 1)), some (.inl (i + 1)), some (.inl sc), some (.inl j)]) (st1 := []) (M1 := M6) (ob := [fs_rg (i + 1)]) rfl rfl (fs_oc ⟨by omega, by omega⟩ trivial) ?_
                          exact ih9 ((i + 1)) (some (.inl sc)) (some (.inl j)) M6 (by omega) (fun r q1 q2 q3 => by rw [f6 r q3, f5 r q2, f4 r q1]; exact f3 r q1 q2 q3) (fun h x h0 h1 x0 x1 => by rw [f6 7 (by decide), f5 7 (by decide), c4 h x h0 h1 x0 x1]; by_cases w : h < i ∨ (h = i ∧ x < kk); (rw [if_pos w, if_pos (by omega)]); (rw [if_neg w, if_neg (by omega)])) (fun h x h0 h1 x0 x1 => by rw [f6 8 (by decide), c5 h x h0 h1 x0 x1]; by_cases w : h < i ∨ (h = i ∧ x < kl); (rw [if_pos w, if_pos (by omega)]); (rw [if_neg w, if_neg (by omega)])) (fun a o a0 a1 o0 o1 => by rw [c6 a o a0 a1 o0 o1]; by_cases w : (a < i ∧ o < M 5 1 - 1) ∨ (a = i ∧ o < j); (rw [if_pos w, if_pos (by omega)]); (rw [if_neg w, if_neg (by omega)])) (by omega)
                        have join119 : ∀ (sj : Int), (sj = gs_h g j) → fs_W (d + 2) 31 119 [some (.inr (.ref 5)), some (.inl g), some (.inl ((M 5 1) - 1)), some (.inl i), some (.inl sc), some (.inl j)] [.inl sj, .inl sc, .inr (.ref 5), .inl j, .inl i, .inr (.ref 5)] M6 Q := by
                          intro sj sj0
                          have gj : 0 ≤ gs_h g j ∧ gs_h g j < 6 ∧ j ≤ gs_h g j := by unfold gs_h; split <;> omega
                          rw [← sj0] at gj
                          have rk : M6 9 ((sc * 6) + sj) = M 9 (gs_h g i * 6 + gs_h g j) := by { rw [c6 sc sj (by omega) (by omega) (by omega) (by omega), if_neg (by omega), sc0, sj0] }
                          refine fs_r_call (sta := false) (idx := 53) (as := [.inr (.ref 5), .inl sc, .inl sj]) (rest := [.inl j, .inl i, .inr (.ref 5)]) (L1 := [some (.inr (.ref 5)), some (.inl g), some (.inl ((M 5 1) - 1)), some (.inl i), some (.inl sc), some (.inl j)]) (st1 := [.inl sj, .inl sc, .inr (.ref 5), .inl j, .inl i, .inr (.ref 5)]) (M1 := M6) (ob := []) rfl rfl rfl trivial rfl rfl (Nat.le_of_ble_eq_true rfl) ⟨Or.inr (Nat.le_of_ble_eq_true rfl), Or.inr fs_ob5⟩ (by decide) ?_
                          refine fs_c_loanOf (by first | exact Or.inl rfl | exact Or.inr (Or.inl rfl) | assumption) (by omega) (by omega) ?_
                          refine fs_r_call (sta := false) (idx := 76) (as := [.inr (.ref 5), .inl i, .inl j, .inl (M6 9 ((sc * 6) + sj))]) (rest := []) (L1 := [some (.inr (.ref 5)), some (.inl g), some (.inl ((M 5 1) - 1)), some (.inl i), some (.inl sc), some (.inl j)]) (st1 := [.inl (M6 9 ((sc * 6) + sj)), .inl j, .inl i, .inr (.ref 5)]) (M1 := M6) (ob := []) rfl rfl rfl trivial rfl rfl (Nat.le_of_ble_eq_true rfl) ⟨Or.inr (Nat.le_of_ble_eq_true rfl), Or.inr fs_ob5⟩ (by decide) ?_
                          refine fs_c_setLoan (by first | exact Or.inl rfl | exact Or.inr (Or.inl rfl) | assumption) (by omega) (by omega) ?_
                          refine fs_r_goto (L1 := [some (.inr (.ref 5)), some (.inl g), some (.inl ((M 5 1) - 1)), some (.inl i), some (.inl sc), some (.inl (j + 1))]) (st1 := []) (M1 := (fs_up M6 9 ((i * 6) + j) (M6 9 ((sc * 6) + sj)))) (ob := [fs_rg (j + 1)]) rfl rfl (fs_oc ⟨by omega, by omega⟩ trivial) ?_
                          exact ih91 ((j + 1)) (fs_up M6 9 ((i * 6) + j) (M6 9 ((sc * 6) + sj))) (by omega) (fun r q => by rw [fs_up_other q]; exact f6 r q) (fun a o a0 a1 o0 o1 => by
                               rw [fs_up_at]
                               by_cases z : a * 6 + o = i * 6 + j
                               · have za : a = i := by omega
                                 have zo : o = j := by omega
                                 rw [if_pos z, if_pos (by omega), za, zo]
                                 exact rk
                               · rw [if_neg z, c6 a o a0 a1 o0 o1]
                                 by_cases w : (a < i ∧ o < M 5 1 - 1) ∨ (a = i ∧ o < j)
                                 · rw [if_pos w, if_pos (by omega)]
                                 · rw [if_neg w, if_neg (by omega)]) (by omega)
                        refine fs_r_icmp (a := j) (y := g) (L1 := [some (.inr (.ref 5)), some (.inl g), some (.inl ((M 5 1) - 1)), some (.inl i), some (.inl sc), some (.inl j)]) (st1 := [.inl sc, .inr (.ref 5), .inl j, .inl i, .inr (.ref 5)]) (M1 := M6) (ob := []) rfl rfl trivial (fun (h5 : g ≤ j) => ?_) (fun (h5 : ¬ (g ≤ j)) => ?_)
                        · refine fs_r_nop (L1 := [some (.inr (.ref 5)), some (.inl g), some (.inl ((M 5 1) - 1)), some (.inl i), some (.inl sc), some (.inl j)]) (st1 := [.inl (j + 1), .inl sc, .inr (.ref 5), .inl j, .inl i, .inr (.ref 5)]) (M1 := M6) (ob := [fs_rg (j + 1)]) rfl rfl (fs_oc ⟨by omega, by omega⟩ trivial) ?_
                          exact join119 ((j + 1)) (by unfold gs_h; first | (rw [if_pos (by omega)]; done) | (rw [if_neg (by omega)]))
                        refine fs_r_goto (L1 := [some (.inr (.ref 5)), some (.inl g), some (.inl ((M 5 1) - 1)), some (.inl i), some (.inl sc), some (.inl j)]) (st1 := [.inl j, .inl sc, .inr (.ref 5), .inl j, .inl i, .inr (.ref 5)]) (M1 := M6) (ob := []) rfl rfl trivial ?_
                        exact join119 (j) (by unfold gs_h; first | (rw [if_pos (by omega)]; done) | (rw [if_neg (by omega)]))
                    exact loop91 ((((M 5 1 - 1) - (0)) : Int) + 1).toNat (0) M5 (by omega) (fun r _ => rfl) (fun a o a0 a1 o0 o1 => by rw [f5 9 (by decide), f4 9 (by decide), e3 a o a0 a1 o0 o1]; by_cases w : a < i ∧ o < M 5 1 - 1; (rw [if_pos w, if_pos (by omega)]); (rw [if_neg w, if_neg (by omega)])) (by omega)
                  have rk : M5 8 ((sc * 4) + kl) = M 8 (gs_h g i * 4 + kl) := by { rw [c5 sc kl (by omega) (by omega) (by omega) (by omega), if_neg (by omega), sc0] }
                  refine fs_r_call (sta := false) (idx := 49) (as := [.inr (.ref 5), .inl sc, .inl kl]) (rest := [.inl kl, .inl i, .inr (.ref 5)]) (L1 := [some (.inr (.ref 5)), some (.inl g), some (.inl ((M 5 1) - 1)), some (.inl i), some (.inl sc), some (.inl kl)]) (st1 := [.inl kl, .inl sc, .inr (.ref 5), .inl kl, .inl i, .inr (.ref 5)]) (M1 := M5) (ob := []) rfl rfl rfl trivial rfl rfl (Nat.le_of_ble_eq_true rfl) ⟨Or.inr (Nat.le_of_ble_eq_true rfl), Or.inr fs_ob5⟩ (by decide) ?_
                  refine fs_c_holdingOf (by first | exact Or.inl rfl | exact Or.inr (Or.inl rfl) | assumption) (by omega) (by omega) ?_
                  refine fs_r_call (sta := false) (idx := 73) (as := [.inr (.ref 5), .inl i, .inl kl, .inl (M5 8 ((sc * 4) + kl))]) (rest := []) (L1 := [some (.inr (.ref 5)), some (.inl g), some (.inl ((M 5 1) - 1)), some (.inl i), some (.inl sc), some (.inl kl)]) (st1 := [.inl (M5 8 ((sc * 4) + kl)), .inl kl, .inl i, .inr (.ref 5)]) (M1 := M5) (ob := []) rfl rfl rfl trivial rfl rfl (Nat.le_of_ble_eq_true rfl) ⟨Or.inr (Nat.le_of_ble_eq_true rfl), Or.inr fs_ob5⟩ (by decide) ?_
                  refine fs_c_setHolding (by first | exact Or.inl rfl | exact Or.inr (Or.inl rfl) | assumption) (by omega) (by omega) ?_
                  refine fs_r_goto (L1 := [some (.inr (.ref 5)), some (.inl g), some (.inl ((M 5 1) - 1)), some (.inl i), some (.inl sc), some (.inl (kl + 1))]) (st1 := []) (M1 := (fs_up M5 8 ((i * 4) + kl) (M5 8 ((sc * 4) + kl)))) (ob := [fs_rg (kl + 1)]) rfl rfl (fs_oc ⟨by omega, by omega⟩ trivial) ?_
                  exact ih61 ((kl + 1)) (fs_up M5 8 ((i * 4) + kl) (M5 8 ((sc * 4) + kl))) (by omega) (fun r q => by rw [fs_up_other q]; exact f5 r q) (fun h x h0 h1 x0 x1 => by
                       rw [fs_up_at]
                       by_cases z : h * 4 + x = i * 4 + kl
                       · have zh : h = i := by omega
                         have zx : x = kl := by omega
                         subst zh zx
                         rw [if_pos rfl, if_pos (by omega)]
                         exact rk
                       · rw [if_neg z, c5 h x h0 h1 x0 x1]
                         by_cases w : h < i ∨ (h = i ∧ x < kl)
                         · rw [if_pos w, if_pos (by omega)]
                         · rw [if_neg w, if_neg (by omega)]) (by omega)
              exact loop61 (((4 - (0)) : Int) + 1).toNat (0) M4 (by omega) (fun r _ => rfl) (fun h x h0 h1 x0 x1 => by rw [f4 8 (by decide), d3 h x h0 h1 x0 x1]; by_cases w : h < i; (rw [if_pos w, if_pos (by omega)]); (rw [if_neg w, if_neg (by omega)])) (by omega)
            have rk : M4 7 ((sc * 5) + kk) = M 7 (gs_h g i * 5 + kk) := by { rw [c4 sc kk (by omega) (by omega) (by omega) (by omega), if_neg (by omega), sc0] }
            refine fs_r_call (sta := false) (idx := 79) (as := [.inr (.ref 5), .inl sc, .inl kk]) (rest := [.inl kk, .inl i, .inr (.ref 5)]) (L1 := [some (.inr (.ref 5)), some (.inl g), some (.inl ((M 5 1) - 1)), some (.inl i), some (.inl sc), some (.inl kk)]) (st1 := [.inl kk, .inl sc, .inr (.ref 5), .inl kk, .inl i, .inr (.ref 5)]) (M1 := M4) (ob := []) rfl rfl rfl trivial rfl rfl (Nat.le_of_ble_eq_true rfl) ⟨Or.inr (Nat.le_of_ble_eq_true rfl), Or.inr fs_ob5⟩ (by decide) ?_
            refine fs_c_fact (by first | exact Or.inl rfl | exact Or.inr (Or.inl rfl) | assumption) (by omega) (by omega) ?_
            refine fs_r_call (sta := false) (idx := 69) (as := [.inr (.ref 5), .inl i, .inl kk, .inl (M4 7 ((sc * 5) + kk))]) (rest := []) (L1 := [some (.inr (.ref 5)), some (.inl g), some (.inl ((M 5 1) - 1)), some (.inl i), some (.inl sc), some (.inl kk)]) (st1 := [.inl (M4 7 ((sc * 5) + kk)), .inl kk, .inl i, .inr (.ref 5)]) (M1 := M4) (ob := []) rfl rfl rfl trivial rfl rfl (Nat.le_of_ble_eq_true rfl) ⟨Or.inr (Nat.le_of_ble_eq_true rfl), Or.inr fs_ob5⟩ (by decide) ?_
            refine fs_c_setFact (by first | exact Or.inl rfl | exact Or.inr (Or.inl rfl) | assumption) (by omega) (by omega) ?_
            refine fs_r_goto (L1 := [some (.inr (.ref 5)), some (.inl g), some (.inl ((M 5 1) - 1)), some (.inl i), some (.inl sc), some (.inl (kk + 1))]) (st1 := []) (M1 := (fs_up M4 7 ((i * 5) + kk) (M4 7 ((sc * 5) + kk)))) (ob := [fs_rg (kk + 1)]) rfl rfl (fs_oc ⟨by omega, by omega⟩ trivial) ?_
            exact ih31 ((kk + 1)) (fs_up M4 7 ((i * 5) + kk) (M4 7 ((sc * 5) + kk))) (by omega) (fun r q => by rw [fs_up_other q]; exact f4 r q) (fun h x h0 h1 x0 x1 => by
                 rw [fs_up_at]
                 by_cases z : h * 5 + x = i * 5 + kk
                 · have zh : h = i := by omega
                   have zx : x = kk := by omega
                   subst zh zx
                   rw [if_pos rfl, if_pos (by omega)]
                   exact rk
                 · rw [if_neg z, c4 h x h0 h1 x0 x1]
                   by_cases w : h < i ∨ (h = i ∧ x < kk)
                   · rw [if_pos w, if_pos (by omega)]
                   · rw [if_neg w, if_neg (by omega)]) (by omega)
        exact loop31 (((5 - (0)) : Int) + 1).toNat (0) M3 (by omega) (fun r _ => rfl) (fun h x h0 h1 x0 x1 => by rw [c3 h x h0 h1 x0 x1]; by_cases w : h < i; (rw [if_pos w, if_pos (by omega)]); (rw [if_neg w, if_neg (by omega)])) (by omega)
      refine fs_r_icmp (a := i) (y := g) (L1 := [some (.inr (.ref 5)), some (.inl g), some (.inl ((M 5 1) - 1)), some (.inl i), zl4, zl5]) (st1 := []) (M1 := M3) (ob := []) rfl rfl trivial (fun (h6 : g ≤ i) => ?_) (fun (h6 : ¬ (g ≤ i)) => ?_)
      · refine fs_r_nop (L1 := [some (.inr (.ref 5)), some (.inl g), some (.inl ((M 5 1) - 1)), some (.inl i), zl4, zl5]) (st1 := [.inl (i + 1)]) (M1 := M3) (ob := [fs_rg (i + 1)]) rfl rfl (fs_oc ⟨by omega, by omega⟩ trivial) ?_
        exact join26 ((i + 1)) (by unfold gs_h; first | (rw [if_pos (by omega)]; done) | (rw [if_neg (by omega)]))
      refine fs_r_goto (L1 := [some (.inr (.ref 5)), some (.inl g), some (.inl ((M 5 1) - 1)), some (.inl i), zl4, zl5]) (st1 := [.inl i]) (M1 := M3) (ob := []) rfl rfl trivial ?_
      exact join26 (i) (by unfold gs_h; first | (rw [if_pos (by omega)]; done) | (rw [if_neg (by omega)]))
  exact loop9 ((((M 5 1 - 1) - (0)) : Int) + 1).toNat (0) (none) (none) M (by omega) (fun r _ _ _ => rfl) (fun h x _ _ _ _ => by rw [if_neg (by omega)]) (fun h x _ _ _ _ => by rw [if_neg (by omega)]) (fun a o _ _ _ _ => by rw [if_neg (by omega)]) (by omega)
