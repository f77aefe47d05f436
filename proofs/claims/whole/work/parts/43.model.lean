/-! the order of falling -/
noncomputable def rk_f (N : Int → Int) (o : Int) : Int := if rq_fell N o = -2 then 9999 else rq_fell N o
noncomputable def rk_a (N : Int → Int) (h : Int) (n : Nat) : Int := fs_sum n (fun o => if rk_f N o < rk_f N h ∨ (rk_f N o = rk_f N h ∧ o < h) then 1 else 0)
noncomputable def rk_r (N : Int → Int) (k : Int) : Nat → Int
  | 0 => -1
  | n + 1 => if rk_r N k n = -1 ∧ rk_a N n (N 1).toNat = k then (n : Int) else rk_r N k n
theorem rk_r_s {N : Int → Int} {k h : Int} (h0 : 0 ≤ h) : rk_r N k (h + 1).toNat = if rk_r N k h.toNat = -1 ∧ rk_a N h (N 1).toNat = k then h else rk_r N k h.toNat := by
  obtain ⟨n, rfl⟩ := Int.eq_ofNat_of_zero_le h0
  rfl
theorem rk_r_f {N : Int → Int} {k h : Int} {n : Nat} (hn : h.toNat < n) (h0 : 0 ≤ h) (e : rk_r N k h.toNat = -1) (c : rk_a N h (N 1).toNat = k) : rk_r N k n = h := by
  induction n with
  | zero => omega
  | succ n ih =>
    show (if rk_r N k n = -1 ∧ rk_a N n (N 1).toNat = k then (n : Int) else rk_r N k n) = h
    rcases (show h.toNat < n ∨ h.toNat = n by omega) with z | z
    · rw [ih z, if_neg (by omega)]
    · rw [← z, show ((h.toNat : Nat) : Int) = h by omega, if_pos ⟨e, c⟩]
noncomputable def rq_ranked (N : Int → Int) (k : Int) : Int := if 0 ≤ k ∧ k < N 1 then rk_r N k (N 1).toNat else -1
theorem fs_m_ranked {d : Nat} {M : fs_M} {Q : Option fs_V → fs_M → Prop} {k : Int}  (hI : fs_NI (M 125)) (hq0 : ∀ (M2 : fs_M), (mm_q M M2) → Q (some (.inl (rq_ranked (M 125) k))) M2) : fs_W (d + 7) 240 0 [some (.inr (.ref 124)), some (.inl k), none, none, none, none, none] [] M Q := by
  have hN := hI
  have hb := hN.2.1
  refine fs_r_call (sta := false) (idx := 237) (as := [.inr (.ref 124), .inl k]) (rest := []) (L1 := [some (.inr (.ref 124)), some (.inl k), none, none, none, none, none]) (st1 := [.inl k, .inr (.ref 124)]) (M1 := M) (ob := []) rfl rfl rfl trivial rfl rfl (Nat.le_of_ble_eq_true rfl) ⟨Or.inr (Nat.le_of_ble_eq_true rfl), Or.inr fs_ob124⟩ (by decide) ?_
  refine fs_m_isHouse (by assumption) (fun (f1 : 0 ≤ k ∧ k < M 125 1) => ?_) (fun (f2 : ¬ (0 ≤ k ∧ k < M 125 1)) => ?_)
  · refine fs_r_if (a := 1) (L1 := [some (.inr (.ref 124)), some (.inl k), none, none, none, none, none]) (st1 := []) (M1 := M) (ob := []) rfl rfl trivial (fun _ => ?_) (fun h => absurd (by decide : ¬ (1 : Int) = 0) h)
    refine fs_r_call (sta := false) (idx := 277) (as := [.inr (.ref 124)]) (rest := []) (L1 := [some (.inr (.ref 124)), some (.inl k), none, none, none, none, none]) (st1 := [.inr (.ref 124)]) (M1 := M) (ob := []) rfl rfl rfl trivial rfl rfl (Nat.le_of_ble_eq_true rfl) ⟨Or.inr (Nat.le_of_ble_eq_true rfl), Or.inr fs_ob124⟩ (by decide) ?_
    refine fs_m_layFell (by assumption) (fun (V1 : fs_M) (q1 : mm_q M V1) (z1 : ∀ h, 0 ≤ h → h < M 125 1 → V1 135 h = rq_fell (M 125) h ∧ -2 ≤ V1 135 h ∧ V1 135 h ≤ 2000) => ?_)
    have zf : ∀ q, 0 ≤ q → q < M 125 1 → rk_f (M 125) q = if V1 135 q = -2 then 9999 else V1 135 q := fun q q0 q1 => by unfold rk_f; rw [(z1 q q0 q1).1]
    have nv := congrFun q1.N 1
    refine fs_r_nop (L1 := [some (.inr (.ref 124)), some (.inl k), some (.inl 0), none, none, none, none]) (st1 := []) (M1 := V1) (ob := [2 < 7]) rfl rfl (fs_oc (by decide) trivial) ?_
    have loop16 : ∀ (n16 : Nat) (h : Int) (zl3 : Option fs_V) (zl4 : Option fs_V) (zl5 : Option fs_V) (zl6 : Option fs_V), (0 ≤ h ∧ h ≤ M 125 1) → (rk_r (M 125) k h.toNat = -1) → M 125 1 - h < (n16 : Int) → fs_W (d + 7) 240 16 [some (.inr (.ref 124)), some (.inl k), some (.inl h), zl3, zl4, zl5, zl6] [] V1 Q := by
      intro n16
      induction n16 with
      | zero =>
        intro h zl3 zl4 zl5 zl6 i0 r0 hm16
        exfalso
        omega
      | succ n16 ih16 =>
        intro h zl3 zl4 zl5 zl6 i0 r0 hm16
        refine fs_r_icmp (a := h) (y := (V1 125 1)) (L1 := [some (.inr (.ref 124)), some (.inl k), some (.inl h), zl3, zl4, zl5, zl6]) (st1 := []) (M1 := V1) (ob := [124 < fs_N ∧ fs_kd 124 = 6, (125 < fs_N ∧ fs_kd 125 = 100) ∧ (0 : Int) ≤ 1 ∧ 1 < fs_ln 125]) rfl rfl (fs_oc fs_ob124 (fs_oc (fs_ar125 (by omega) (by omega)) trivial)) (fun (h3 : (V1 125 1) ≤ h) => ?_) (fun (h3 : ¬ ((V1 125 1) ≤ h)) => ?_)
        · refine fs_r_iret (a := (-1)) (L1 := [some (.inr (.ref 124)), some (.inl k), some (.inl h), zl3, zl4, zl5, zl6]) (M1 := V1) (ob := []) rfl rfl trivial (Or.inl rfl) ?_
          exact fs_qi (by unfold rq_ranked; rw [if_pos (by omega), show M 125 1 = h by omega, r0]) (hq0 _ q1)
        refine fs_r_nop (L1 := [some (.inr (.ref 124)), some (.inl k), some (.inl h), some (.inl 0), some (.inl 0), zl5, zl6]) (st1 := []) (M1 := V1) (ob := [3 < 7, 4 < 7]) rfl rfl (fs_oc (by decide) (fs_oc (by decide) trivial)) ?_
        have loop31 : ∀ (n31 : Nat) (a : Int) (o : Int) (zl5 : Option fs_V) (zl6 : Option fs_V), (0 ≤ o ∧ o ≤ M 125 1) → (a = rk_a (M 125) h o.toNat ∧ 0 ≤ a ∧ a ≤ o) → M 125 1 - o < (n31 : Int) → fs_W (d + 7) 240 31 [some (.inr (.ref 124)), some (.inl k), some (.inl h), some (.inl a), some (.inl o), zl5, zl6] [] V1 Q := by
          intro n31
          induction n31 with
          | zero =>
            intro a o zl5 zl6 o0 a0 hm31
            exfalso
            omega
          | succ n31 ih31 =>
            intro a o zl5 zl6 o0 a0 hm31
            refine fs_r_icmp (a := o) (y := (V1 125 1)) (L1 := [some (.inr (.ref 124)), some (.inl k), some (.inl h), some (.inl a), some (.inl o), zl5, zl6]) (st1 := []) (M1 := V1) (ob := [124 < fs_N ∧ fs_kd 124 = 6, (125 < fs_N ∧ fs_kd 125 = 100) ∧ (0 : Int) ≤ 1 ∧ 1 < fs_ln 125]) rfl rfl (fs_oc fs_ob124 (fs_oc (fs_ar125 (by omega) (by omega)) trivial)) (fun (h4 : (V1 125 1) ≤ o) => ?_) (fun (h4 : ¬ ((V1 125 1) ≤ o)) => ?_)
            · refine fs_r_icmp (a := a) (y := k) (L1 := [some (.inr (.ref 124)), some (.inl k), some (.inl h), some (.inl a), some (.inl o), zl5, zl6]) (st1 := []) (M1 := V1) (ob := []) rfl rfl trivial (fun (h5 : ¬ a = k) => ?_) (fun (h5 : ¬ (¬ a = k)) => ?_)
              · refine fs_r_goto (L1 := [some (.inr (.ref 124)), some (.inl k), some (.inl (h + 1)), some (.inl a), some (.inl o), zl5, zl6]) (st1 := []) (M1 := V1) (ob := [fs_rg (h + 1)]) rfl rfl (fs_oc ⟨by omega, by omega⟩ trivial) ?_
                exact ih16 ((h + 1)) (some (.inl a)) (some (.inl o)) (zl5) (zl6) (by omega) (by rw [rk_r_s (by omega), if_neg (fun z => by rw [show M 125 1 = o by omega] at z; omega)]; exact r0) (by omega)
              refine fs_r_iret (a := h) (L1 := [some (.inr (.ref 124)), some (.inl k), some (.inl h), some (.inl a), some (.inl o), zl5, zl6]) (M1 := V1) (ob := []) rfl rfl trivial (Or.inl rfl) ?_
              exact fs_qi (by unfold rq_ranked; rw [if_pos (by omega), rk_r_f (by omega) (by omega) r0 (by rw [show M 125 1 = o by omega]; omega)]) (hq0 _ q1)
            have join67 : ∀ (x : Int), (x = rk_f (M 125) o) → fs_W (d + 7) 240 67 [some (.inr (.ref 124)), some (.inl k), some (.inl h), some (.inl a), some (.inl o), zl5, zl6] [.inl x] V1 Q := by
              intro x x0
              have join92 : ∀ (y : Int), (y = rk_f (M 125) h) → fs_W (d + 7) 240 92 [some (.inr (.ref 124)), some (.inl k), some (.inl h), some (.inl a), some (.inl o), some (.inl x), zl6] [.inl y] V1 Q := by
                intro y y0
                have join120 : ∀ (w : Int), (w = if rk_f (M 125) o < rk_f (M 125) h ∨ (rk_f (M 125) o = rk_f (M 125) h ∧ o < h) then 1 else 0) → fs_W (d + 7) 240 120 [some (.inr (.ref 124)), some (.inl k), some (.inl h), some (.inl a), some (.inl o), some (.inl x), some (.inl y)] [.inl w, .inl a] V1 Q := by
                  intro w w0
                  refine fs_r_goto (L1 := [some (.inr (.ref 124)), some (.inl k), some (.inl h), some (.inl (a + w)), some (.inl (o + 1)), some (.inl x), some (.inl y)]) (st1 := []) (M1 := V1) (ob := [fs_rg (a + w), 3 < 7, fs_rg (o + 1)]) rfl rfl (fs_oc ⟨by omega, by omega⟩ (fs_oc (by decide) (fs_oc ⟨by omega, by omega⟩ trivial))) ?_
                  exact ih31 ((a + w)) ((o + 1)) (some (.inl x)) (some (.inl y)) (by omega) (by unfold rk_a at a0 ⊢; rw [fs_sum_s o0.1, ← a0.1, ← w0]; have ww : w = 0 ∨ w = 1 := by { rw [w0]; split; exact Or.inr rfl; exact Or.inl rfl }; omega) (by omega)
                refine fs_r_icmp (a := x) (y := y) (L1 := [some (.inr (.ref 124)), some (.inl k), some (.inl h), some (.inl a), some (.inl o), some (.inl x), some (.inl y)]) (st1 := [.inl a]) (M1 := V1) (ob := [6 < 7]) rfl rfl (fs_oc (by decide) trivial) (fun (h6 : x < y) => ?_) (fun (h6 : ¬ (x < y)) => ?_)
                · refine fs_r_goto (L1 := [some (.inr (.ref 124)), some (.inl k), some (.inl h), some (.inl a), some (.inl o), some (.inl x), some (.inl y)]) (st1 := [.inl 1, .inl a]) (M1 := V1) (ob := []) rfl rfl trivial ?_
                  exact join120 (1) (by first | (rw [if_pos (by omega)]) | (rw [if_neg (by omega)]))
                refine fs_r_icmp (a := x) (y := y) (L1 := [some (.inr (.ref 124)), some (.inl k), some (.inl h), some (.inl a), some (.inl o), some (.inl x), some (.inl y)]) (st1 := [.inl a]) (M1 := V1) (ob := []) rfl rfl trivial (fun (h7 : ¬ x = y) => ?_) (fun (h7 : ¬ (¬ x = y)) => ?_)
                · refine fs_r_nop (L1 := [some (.inr (.ref 124)), some (.inl k), some (.inl h), some (.inl a), some (.inl o), some (.inl x), some (.inl y)]) (st1 := [.inl 0, .inl a]) (M1 := V1) (ob := []) rfl rfl trivial ?_
                  exact join120 (0) (by first | (rw [if_pos (by omega)]) | (rw [if_neg (by omega)]))
                refine fs_r_icmp (a := o) (y := h) (L1 := [some (.inr (.ref 124)), some (.inl k), some (.inl h), some (.inl a), some (.inl o), some (.inl x), some (.inl y)]) (st1 := [.inl a]) (M1 := V1) (ob := []) rfl rfl trivial (fun (h8 : h ≤ o) => ?_) (fun (h8 : ¬ (h ≤ o)) => ?_)
                · refine fs_r_nop (L1 := [some (.inr (.ref 124)), some (.inl k), some (.inl h), some (.inl a), some (.inl o), some (.inl x), some (.inl y)]) (st1 := [.inl 0, .inl a]) (M1 := V1) (ob := []) rfl rfl trivial ?_
                  exact join120 (0) (by first | (rw [if_pos (by omega)]) | (rw [if_neg (by omega)]))
                refine fs_r_goto (L1 := [some (.inr (.ref 124)), some (.inl k), some (.inl h), some (.inl a), some (.inl o), some (.inl x), some (.inl y)]) (st1 := [.inl 1, .inl a]) (M1 := V1) (ob := []) rfl rfl trivial ?_
                exact join120 (1) (by first | (rw [if_pos (by omega)]) | (rw [if_neg (by omega)]))
              refine fs_r_icmp (a := (V1 135 h)) (y := (-2)) (L1 := [some (.inr (.ref 124)), some (.inl k), some (.inl h), some (.inl a), some (.inl o), some (.inl x), zl6]) (st1 := []) (M1 := V1) (ob := [5 < 7, 124 < fs_N ∧ fs_kd 124 = 6, (135 < fs_N ∧ fs_kd 135 = 100) ∧ (0 : Int) ≤ h ∧ h < fs_ln 135]) rfl rfl (fs_oc (by decide) (fs_oc fs_ob124 (fs_oc (fs_ar135 (by omega) (by omega)) trivial))) (fun (h9 : ¬ (V1 135 h) = (-2)) => ?_) (fun (h9 : ¬ (¬ (V1 135 h) = (-2))) => ?_)
              · refine fs_r_nop (L1 := [some (.inr (.ref 124)), some (.inl k), some (.inl h), some (.inl a), some (.inl o), some (.inl x), zl6]) (st1 := [.inl (V1 135 h)]) (M1 := V1) (ob := [124 < fs_N ∧ fs_kd 124 = 6, (135 < fs_N ∧ fs_kd 135 = 100) ∧ (0 : Int) ≤ h ∧ h < fs_ln 135]) rfl rfl (fs_oc fs_ob124 (fs_oc (fs_ar135 (by omega) (by omega)) trivial)) ?_
                exact join92 ((V1 135 h)) (by rw [zf h (by omega) (by omega)]; first | (rw [if_pos (by omega)]) | (rw [if_neg (by omega)]))
              refine fs_r_goto (L1 := [some (.inr (.ref 124)), some (.inl k), some (.inl h), some (.inl a), some (.inl o), some (.inl x), zl6]) (st1 := [.inl 9999]) (M1 := V1) (ob := []) rfl rfl trivial ?_
              exact join92 (9999) (by rw [zf h (by omega) (by omega)]; first | (rw [if_pos (by omega)]) | (rw [if_neg (by omega)]))
            refine fs_r_icmp (a := (V1 135 o)) (y := (-2)) (L1 := [some (.inr (.ref 124)), some (.inl k), some (.inl h), some (.inl a), some (.inl o), zl5, zl6]) (st1 := []) (M1 := V1) (ob := [124 < fs_N ∧ fs_kd 124 = 6, (135 < fs_N ∧ fs_kd 135 = 100) ∧ (0 : Int) ≤ o ∧ o < fs_ln 135]) rfl rfl (fs_oc fs_ob124 (fs_oc (fs_ar135 (by omega) (by omega)) trivial)) (fun (h10 : ¬ (V1 135 o) = (-2)) => ?_) (fun (h10 : ¬ (¬ (V1 135 o) = (-2))) => ?_)
            · refine fs_r_nop (L1 := [some (.inr (.ref 124)), some (.inl k), some (.inl h), some (.inl a), some (.inl o), zl5, zl6]) (st1 := [.inl (V1 135 o)]) (M1 := V1) (ob := [124 < fs_N ∧ fs_kd 124 = 6, (135 < fs_N ∧ fs_kd 135 = 100) ∧ (0 : Int) ≤ o ∧ o < fs_ln 135]) rfl rfl (fs_oc fs_ob124 (fs_oc (fs_ar135 (by omega) (by omega)) trivial)) ?_
              exact join67 ((V1 135 o)) (by rw [zf o (by omega) (by omega)]; first | (rw [if_pos (by omega)]) | (rw [if_neg (by omega)]))
            refine fs_r_goto (L1 := [some (.inr (.ref 124)), some (.inl k), some (.inl h), some (.inl a), some (.inl o), zl5, zl6]) (st1 := [.inl 9999]) (M1 := V1) (ob := []) rfl rfl trivial ?_
            exact join67 (9999) (by rw [zf o (by omega) (by omega)]; first | (rw [if_pos (by omega)]) | (rw [if_neg (by omega)]))
        exact loop31 (((M 125 1 - (0)) : Int) + 1).toNat (0) (0) (zl5) (zl6) (by omega) (⟨rfl, by omega, by omega⟩) (by omega)
    exact loop16 (((M 125 1 - (0)) : Int) + 1).toNat (0) (none) (none) (none) (none) (by omega) (rfl) (by omega)
  refine fs_r_if (a := 0) (L1 := [some (.inr (.ref 124)), some (.inl k), none, none, none, none, none]) (st1 := []) (M1 := M) (ob := []) rfl rfl trivial (fun h => absurd h (by decide : ¬ (¬ (0 : Int) = 0))) (fun _ => ?_)
  refine fs_r_iret (a := (-1)) (L1 := [some (.inr (.ref 124)), some (.inl k), none, none, none, none, none]) (M1 := M) (ob := []) rfl rfl trivial (Or.inl rfl) ?_
  exact fs_qi (by unfold rq_ranked; rw [if_neg (by assumption)]) (hq0 _ mm_q.rf)
