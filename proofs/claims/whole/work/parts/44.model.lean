/-! all ways to give -/
def bw_g (H b c : Int) : Int → Int := fun q => if 0 ≤ q ∧ q < H then c / b ^ (H - 1 - q).toNat % b else 0
def bw_s (H b c : Int) : Int := fs_sum H.toNat (bw_g H b c)
noncomputable def bw_l (N : Int → Int) (b v c : Int) : Int := gv_l N (fun q => bw_g (N 1) b c q * v)
noncomputable def bw_m (N : Int → Int) (n v : Int) : Nat → Int
  | 0 => -1
  | c + 1 => if bw_s (N 1) (n + 1) c = n ∧ (bw_m N n v c = -1 ∨ bw_l N (n + 1) v c < bw_m N n v c) then bw_l N (n + 1) v c else bw_m N n v c
noncomputable def bw_r (N : Int → Int) (n v : Int) : Nat → Int
  | 0 => -1
  | c + 1 => if bw_s (N 1) (n + 1) c = n ∧ (bw_m N n v c = -1 ∨ bw_l N (n + 1) v c < bw_m N n v c) then (c : Int) else bw_r N n v c
noncomputable def rq_bestAid (N : Int → Int) (n v h : Int) : Int := if (0 ≤ n ∧ n ≤ 4) ∧ (1 ≤ v ∧ v ≤ 999) ∧ (h = -1 ∨ (0 ≤ h ∧ h < N 1)) then (if N 1 = 0 then -2 else if h = -1 then bw_m N n v ((n + 1) ^ (N 1).toNat).toNat else bw_g (N 1) (n + 1) (bw_r N n v ((n + 1) ^ (N 1).toNat).toNat) h) else -1
theorem bw_m_s {N : Int → Int} {n v c : Int} (h0 : 0 ≤ c) : bw_m N n v (c + 1).toNat = if bw_s (N 1) (n + 1) c = n ∧ (bw_m N n v c.toNat = -1 ∨ bw_l N (n + 1) v c < bw_m N n v c.toNat) then bw_l N (n + 1) v c else bw_m N n v c.toNat := by
  obtain ⟨k, rfl⟩ := Int.eq_ofNat_of_zero_le h0
  rfl
theorem bw_r_s {N : Int → Int} {n v c : Int} (h0 : 0 ≤ c) : bw_r N n v (c + 1).toNat = if bw_s (N 1) (n + 1) c = n ∧ (bw_m N n v c.toNat = -1 ∨ bw_l N (n + 1) v c < bw_m N n v c.toNat) then c else bw_r N n v c.toNat := by
  obtain ⟨k, rfl⟩ := Int.eq_ofNat_of_zero_le h0
  rfl
theorem bw_g_b {H b c : Int} (hb : 0 < b) (q : Int) : 0 ≤ bw_g H b c q ∧ bw_g H b c q < b := by
  unfold bw_g
  split
  · exact ⟨Int.emod_nonneg _ (by omega), Int.emod_lt_of_pos _ hb⟩
  · omega
theorem bw_pow {b H : Int} (hb : 1 ≤ b ∧ b ≤ 5) (hH : 0 ≤ H ∧ H ≤ 6) : 1 ≤ b ^ H.toNat ∧ b ^ H.toNat ≤ 15625 := by
  have key : ∀ (b : Fin 6) (k : Fin 7), 1 ≤ b.val → 1 ≤ ((b.val : Nat) : Int) ^ k.val ∧ ((b.val : Nat) : Int) ^ k.val ≤ 15625 := by decide +kernel
  have := key ⟨b.toNat, by omega⟩ ⟨H.toNat, by omega⟩ (by show 1 ≤ b.toNat; omega)
  simpa only [Int.toNat_of_nonneg (show 0 ≤ b by omega)] using this
theorem bw_pow_s {b h : Int} (h0 : 0 ≤ h) : b ^ (h + 1).toNat = b ^ h.toNat * b := by
  rw [show (h + 1).toNat = h.toNat + 1 by omega, Int.pow_succ]
theorem bw_div {b c h : Int} (hb : 0 < b) (h0 : 0 ≤ h) : c / b ^ (h + 1).toNat = c / b ^ h.toNat / b := by
  rw [bw_pow_s h0, Int.ediv_ediv_of_nonneg (Int.le_of_lt (Int.pow_pos hb))]
theorem bw_mul {x v : Int} (hx : 0 ≤ x ∧ x ≤ 4) (hv : 0 ≤ v ∧ v ≤ 999) : 0 ≤ x * v ∧ x * v ≤ 3996 := by
  rcases (show x = 0 ∨ x = 1 ∨ x = 2 ∨ x = 3 ∨ x = 4 by omega) with z | z | z | z | z <;> subst z <;> omega
theorem mm_G.u137 {B V : fs_M} {g : Int → Int} {i v : Int} (k : mm_G B V g) : mm_G B (fs_up V 137 i v) g := by
  obtain ⟨h1, h3, h2⟩ := k
  exact ⟨⟨fun r q => by rw [fs_up_other (by omega)]; exact h1.1 r q, h1.2.1, h1.2.2⟩, h3, fun q q0 q1 => by rw [fs_up_other (by decide)]; exact h2 q q0 q1⟩
theorem fs_m_isRow {d : Nat} {M : fs_M} {Q : Option fs_V → fs_M → Prop} {c : Int} {n : Int} {v : Int} {B : fs_M} {g : Int → Int} (hN : fs_NI (B 125)) (hG : mm_G B M g) (hc : 0 ≤ c ∧ c ≤ 15625) (hn : 0 ≤ n ∧ n ≤ 4) (hv : 1 ≤ v ∧ v ≤ 999) (hz : ∀ q, B 125 1 ≤ q → q < 6 → M 136 q = 0 ∧ g q = 0) (hq0 : ∀ (M2 : fs_M), (bw_s (B 125 1) (n + 1) c = n) → (mm_G B M2 (fun q => bw_g (B 125 1) (n + 1) c q * v)) → (∀ q, 0 ≤ q → q < 6 → M2 136 q = bw_g (B 125 1) (n + 1) c q) → (M2 137 = M 137) → (M2 124 30 = M 124 30) → Q (some (.inl 1)) M2) (hq1 : ∀ (M2 : fs_M), (¬ bw_s (B 125 1) (n + 1) c = n) → (mm_G B M2 (fun q => bw_g (B 125 1) (n + 1) c q * v)) → (∀ q, 0 ≤ q → q < 6 → M2 136 q = bw_g (B 125 1) (n + 1) c q) → (M2 137 = M 137) → (M2 124 30 = M 124 30) → Q (some (.inl 0)) M2) : fs_W (d) 260 0 [some (.inr (.ref 124)), some (.inl c), some (.inl n), some (.inl v), none, none, none] [] M Q := by
  obtain ⟨⟨hA0, hA1⟩, ⟨hH0, hH1⟩, -⟩ := id hN
  have n0 := congrFun hG.1.N 1
  refine fs_r_nop (L1 := [some (.inr (.ref 124)), some (.inl c), some (.inl n), some (.inl v), some (.inl c), some (.inl 0), some (.inl ((M 125 1) - 1))]) (st1 := []) (M1 := M) (ob := [4 < 7, 5 < 7, 124 < fs_N ∧ fs_kd 124 = 6, (125 < fs_N ∧ fs_kd 125 = 100) ∧ (0 : Int) ≤ 1 ∧ 1 < fs_ln 125, fs_rg ((M 125 1) - 1), 6 < 7]) rfl (fs_exA 6 (o1 := [4 < 7, 5 < 7, 124 < fs_N ∧ fs_kd 124 = 6]) (L1 := [some (.inr (.ref 124)), some (.inl c), some (.inl n), some (.inl v), some (.inl c), some (.inl 0), none]) (st1 := [.inr (.ref 125)]) (M1 := M) (o2 := [(125 < fs_N ∧ fs_kd 125 = 100) ∧ (0 : Int) ≤ 1 ∧ 1 < fs_ln 125, fs_rg ((M 125 1) - 1), 6 < 7]) rfl rfl) (fs_oc (by decide) (fs_oc (by decide) (fs_oc fs_ob124 (fs_oc (fs_ar125 (by omega) (by omega)) (fs_oc ⟨by omega, by omega⟩ (fs_oc (by decide) trivial)))))) ?_
  have loop16 : ∀ (n16 : Nat) (r : Int) (s : Int) (h : Int) (M3 : fs_M) (f : Int → Int), (-1 ≤ h ∧ h < B 125 1) → (r = c / (n + 1) ^ (B 125 1 - 1 - h).toNat) → (0 ≤ r ∧ r ≤ 15625) → (s + fs_sum (h + 1).toNat (bw_g (B 125 1) (n + 1) c) = bw_s (B 125 1) (n + 1) c) → (0 ≤ s ∧ s ≤ 4 * (B 125 1 - 1 - h)) → (mm_G B M3 f) → (∀ q, h < q → q < 6 → M3 136 q = bw_g (B 125 1) (n + 1) c q ∧ f q = bw_g (B 125 1) (n + 1) c q * v) → (M3 137 = M 137) → (M3 124 30 = M 124 30) → h + 1 < (n16 : Int) → fs_W (d) 260 16 [some (.inr (.ref 124)), some (.inl c), some (.inl n), some (.inl v), some (.inl r), some (.inl s), some (.inl h)] [] M3 Q := by
    intro n16
    induction n16 with
    | zero =>
      intro r s h M3 f i0 r0 r1 s0 s1 G3 t3 k3 l3 hm16
      exfalso
      omega
    | succ n16 ih16 =>
      intro r s h M3 f i0 r0 r1 s0 s1 G3 t3 k3 l3 hm16
      refine fs_r_if (a := h) (L1 := [some (.inr (.ref 124)), some (.inl c), some (.inl n), some (.inl v), some (.inl r), some (.inl s), some (.inl h)]) (st1 := []) (M1 := M3) (ob := []) rfl rfl trivial (fun (h1 : h < 0) => ?_) (fun (h1 : ¬ (h < 0)) => ?_)
      · refine fs_r_icmp (a := s) (y := n) (L1 := [some (.inr (.ref 124)), some (.inl c), some (.inl n), some (.inl v), some (.inl r), some (.inl s), some (.inl h)]) (st1 := []) (M1 := M3) (ob := []) rfl rfl trivial (fun (h2 : ¬ s = n) => ?_) (fun (h2 : ¬ (¬ s = n)) => ?_)
        · refine fs_r_nop (L1 := [some (.inr (.ref 124)), some (.inl c), some (.inl n), some (.inl v), some (.inl r), some (.inl s), some (.inl h)]) (st1 := [.inl 0]) (M1 := M3) (ob := []) rfl rfl trivial ?_
          refine fs_r_iret (a := 0) (L1 := [some (.inr (.ref 124)), some (.inl c), some (.inl n), some (.inl v), some (.inl r), some (.inl s), some (.inl h)]) (M1 := M3) (ob := []) rfl rfl trivial (Or.inr (Or.inl rfl)) ?_
          have he : h = -1 := by omega
          rw [he] at s0
          have s2 : s = bw_s (B 125 1) (n + 1) c := by rw [← s0]; show s = s + 0; omega
          exact hq1 _ (by omega) (G3.to (fun q q0 q1 => (t3 q (by omega) q1).2)) (fun q q0 q1 => (t3 q (by omega) q1).1) k3 l3
        refine fs_r_goto (L1 := [some (.inr (.ref 124)), some (.inl c), some (.inl n), some (.inl v), some (.inl r), some (.inl s), some (.inl h)]) (st1 := [.inl 1]) (M1 := M3) (ob := []) rfl rfl trivial ?_
        refine fs_r_iret (a := 1) (L1 := [some (.inr (.ref 124)), some (.inl c), some (.inl n), some (.inl v), some (.inl r), some (.inl s), some (.inl h)]) (M1 := M3) (ob := []) rfl rfl trivial (Or.inr (Or.inr rfl)) ?_
        have he : h = -1 := by omega
        rw [he] at s0
        have s2 : s = bw_s (B 125 1) (n + 1) c := by rw [← s0]; show s = s + 0; omega
        exact hq0 _ (by omega) (G3.to (fun q q0 q1 => (t3 q (by omega) q1).2)) (fun q q0 q1 => (t3 q (by omega) q1).1) k3 l3
      have rq : r % (n + 1) = bw_g (B 125 1) (n + 1) c h := by unfold bw_g; rw [if_pos (by omega), r0]
      have rb := bw_g_b (H := B 125 1) (c := c) (show 0 < n + 1 by omega) h
      have rm := bw_mul (x := r % (n + 1)) (v := v) (by omega) (by omega)
      have e1 : fs_up M3 136 h (r % (n + 1)) 136 h = r % (n + 1) := by rw [fs_up_at, if_pos rfl]
      have e2 : fs_up (fs_up M3 136 h (r % (n + 1))) 131 h (fs_up M3 136 h (r % (n + 1)) 136 h * v) 136 h = r % (n + 1) := by rw [fs_up_other (by decide), e1]
      have e3 : fs_up (fs_up M3 136 h (r % (n + 1))) 131 h (r % (n + 1) * v) 136 h = r % (n + 1) := by rw [fs_up_other (by decide), e1]
      have e4 : 0 ≤ fs_up M3 136 h (r % (n + 1)) 136 h ∧ fs_up M3 136 h (r % (n + 1)) 136 h ≤ 4 := by rw [e1]; omega
      have e5 : 0 ≤ fs_up M3 136 h (r % (n + 1)) 136 h * v ∧ fs_up M3 136 h (r % (n + 1)) 136 h * v ≤ 3996 := by rw [e1]; exact rm
      have rd : 0 ≤ r / (n + 1) := Int.ediv_nonneg (by omega) (by omega)
      have re : r / (n + 1) ≤ r := Int.ediv_le_self _ (by omega)
      have es : fs_sum (h + 1).toNat (bw_g (B 125 1) (n + 1) c) = fs_sum h.toNat (bw_g (B 125 1) (n + 1) c) + bw_g (B 125 1) (n + 1) c h := fs_sum_s (by omega)
      refine fs_r_goto (L1 := [some (.inr (.ref 124)), some (.inl c), some (.inl n), some (.inl v), some (.inl (r / (n + 1))), some (.inl (s + ((fs_up M3 136 h (r % (n + 1))) 136 h))), some (.inl (h + (-1)))]) (st1 := []) (M1 := (fs_up (fs_up M3 136 h (r % (n + 1))) 131 h (((fs_up M3 136 h (r % (n + 1))) 136 h) * v))) (ob := [124 < fs_N ∧ fs_kd 124 = 6, fs_rg (n + 1), (0 : Int) ≤ r, (0 : Int) < (n + 1), (136 < fs_N ∧ fs_kd 136 = 100) ∧ (0 : Int) ≤ h ∧ h < fs_ln 136, 124 < fs_N ∧ fs_kd 124 = 6, 124 < fs_N ∧ fs_kd 124 = 6, (136 < fs_N ∧ fs_kd 136 = 100) ∧ (0 : Int) ≤ h ∧ h < fs_ln 136, fs_rg (((fs_up M3 136 h (r % (n + 1))) 136 h) * v), (131 < fs_N ∧ fs_kd 131 = 100) ∧ (0 : Int) ≤ h ∧ h < fs_ln 131, 124 < fs_N ∧ fs_kd 124 = 6, (136 < fs_N ∧ fs_kd 136 = 100) ∧ (0 : Int) ≤ h ∧ h < fs_ln 136, fs_rg (s + ((fs_up M3 136 h (r % (n + 1))) 136 h)), 5 < 7, fs_rg (n + 1), (0 : Int) ≤ r, (0 : Int) < (n + 1), 4 < 7, fs_rg (h + (-1))]) rfl (fs_exA 6 (o1 := [124 < fs_N ∧ fs_kd 124 = 6]) (L1 := [some (.inr (.ref 124)), some (.inl c), some (.inl n), some (.inl v), some (.inl r), some (.inl s), some (.inl h)]) (st1 := [.inl 1, .inl n, .inl r, .inl h, .inr (.ref 136)]) (M1 := M3) (o2 := [fs_rg (n + 1), (0 : Int) ≤ r, (0 : Int) < (n + 1), (136 < fs_N ∧ fs_kd 136 = 100) ∧ (0 : Int) ≤ h ∧ h < fs_ln 136, 124 < fs_N ∧ fs_kd 124 = 6, 124 < fs_N ∧ fs_kd 124 = 6, (136 < fs_N ∧ fs_kd 136 = 100) ∧ (0 : Int) ≤ h ∧ h < fs_ln 136, fs_rg (((fs_up M3 136 h (r % (n + 1))) 136 h) * v), (131 < fs_N ∧ fs_kd 131 = 100) ∧ (0 : Int) ≤ h ∧ h < fs_ln 131, 124 < fs_N ∧ fs_kd 124 = 6, (136 < fs_N ∧ fs_kd 136 = 100) ∧ (0 : Int) ≤ h ∧ h < fs_ln 136, fs_rg (s + ((fs_up M3 136 h (r % (n + 1))) 136 h)), 5 < 7, fs_rg (n + 1), (0 : Int) ≤ r, (0 : Int) < (n + 1), 4 < 7, fs_rg (h + (-1))]) rfl (fs_exA 6 (o1 := [fs_rg (n + 1), (0 : Int) ≤ r, (0 : Int) < (n + 1), (136 < fs_N ∧ fs_kd 136 = 100) ∧ (0 : Int) ≤ h ∧ h < fs_ln 136, 124 < fs_N ∧ fs_kd 124 = 6]) (L1 := [some (.inr (.ref 124)), some (.inl c), some (.inl n), some (.inl v), some (.inl r), some (.inl s), some (.inl h)]) (st1 := [.inl h, .inr (.ref 131)]) (M1 := (fs_up M3 136 h (r % (n + 1)))) (o2 := [124 < fs_N ∧ fs_kd 124 = 6, (136 < fs_N ∧ fs_kd 136 = 100) ∧ (0 : Int) ≤ h ∧ h < fs_ln 136, fs_rg (((fs_up M3 136 h (r % (n + 1))) 136 h) * v), (131 < fs_N ∧ fs_kd 131 = 100) ∧ (0 : Int) ≤ h ∧ h < fs_ln 131, 124 < fs_N ∧ fs_kd 124 = 6, (136 < fs_N ∧ fs_kd 136 = 100) ∧ (0 : Int) ≤ h ∧ h < fs_ln 136, fs_rg (s + ((fs_up M3 136 h (r % (n + 1))) 136 h)), 5 < 7, fs_rg (n + 1), (0 : Int) ≤ r, (0 : Int) < (n + 1), 4 < 7, fs_rg (h + (-1))]) rfl (fs_exA 6 (o1 := [124 < fs_N ∧ fs_kd 124 = 6, (136 < fs_N ∧ fs_kd 136 = 100) ∧ (0 : Int) ≤ h ∧ h < fs_ln 136, fs_rg (((fs_up M3 136 h (r % (n + 1))) 136 h) * v)]) (L1 := [some (.inr (.ref 124)), some (.inl c), some (.inl n), some (.inl v), some (.inl r), some (.inl s), some (.inl h)]) (st1 := [.inl (((fs_up M3 136 h (r % (n + 1))) 136 h) * v), .inl h, .inr (.ref 131)]) (M1 := (fs_up M3 136 h (r % (n + 1)))) (o2 := [(131 < fs_N ∧ fs_kd 131 = 100) ∧ (0 : Int) ≤ h ∧ h < fs_ln 131, 124 < fs_N ∧ fs_kd 124 = 6, (136 < fs_N ∧ fs_kd 136 = 100) ∧ (0 : Int) ≤ h ∧ h < fs_ln 136, fs_rg (s + ((fs_up M3 136 h (r % (n + 1))) 136 h)), 5 < 7, fs_rg (n + 1), (0 : Int) ≤ r, (0 : Int) < (n + 1), 4 < 7, fs_rg (h + (-1))]) rfl (fs_exA 6 (o1 := [(131 < fs_N ∧ fs_kd 131 = 100) ∧ (0 : Int) ≤ h ∧ h < fs_ln 131, 124 < fs_N ∧ fs_kd 124 = 6, (136 < fs_N ∧ fs_kd 136 = 100) ∧ (0 : Int) ≤ h ∧ h < fs_ln 136]) (L1 := [some (.inr (.ref 124)), some (.inl c), some (.inl n), some (.inl v), some (.inl r), some (.inl s), some (.inl h)]) (st1 := [.inl ((fs_up M3 136 h (r % (n + 1))) 136 h), .inl s]) (M1 := (fs_up (fs_up M3 136 h (r % (n + 1))) 131 h (((fs_up M3 136 h (r % (n + 1))) 136 h) * v))) (o2 := [fs_rg (s + ((fs_up M3 136 h (r % (n + 1))) 136 h)), 5 < 7, fs_rg (n + 1), (0 : Int) ≤ r, (0 : Int) < (n + 1), 4 < 7, fs_rg (h + (-1))]) rfl (fs_exA 6 (o1 := [fs_rg (s + ((fs_up M3 136 h (r % (n + 1))) 136 h)), 5 < 7, fs_rg (n + 1)]) (L1 := [some (.inr (.ref 124)), some (.inl c), some (.inl n), some (.inl v), some (.inl r), some (.inl (s + ((fs_up M3 136 h (r % (n + 1))) 136 h))), some (.inl h)]) (st1 := [.inl (n + 1), .inl r]) (M1 := (fs_up (fs_up M3 136 h (r % (n + 1))) 131 h (((fs_up M3 136 h (r % (n + 1))) 136 h) * v))) (o2 := [(0 : Int) ≤ r, (0 : Int) < (n + 1), 4 < 7, fs_rg (h + (-1))]) rfl rfl))))) (fs_oc fs_ob124 (fs_oc ⟨by omega, by omega⟩ (fs_oc (by omega) (fs_oc (by omega) (fs_oc (fs_ar136 (by omega) (by omega)) (fs_oc fs_ob124 (fs_oc fs_ob124 (fs_oc (fs_ar136 (by omega) (by omega)) (fs_oc ⟨by omega, by omega⟩ (fs_oc (fs_ar131 (by omega) (by omega)) (fs_oc fs_ob124 (fs_oc (fs_ar136 (by omega) (by omega)) (fs_oc ⟨by omega, by omega⟩ (fs_oc (by decide) (fs_oc ⟨by omega, by omega⟩ (fs_oc (by omega) (fs_oc (by omega) (fs_oc (by decide) (fs_oc ⟨by omega, by omega⟩ trivial))))))))))))))))))) ?_
      exact ih16 ((r / (n + 1))) ((s + ((fs_up M3 136 h (r % (n + 1))) 136 h))) ((h + (-1))) (fs_up (fs_up M3 136 h (r % (n + 1))) 131 h (((fs_up M3 136 h (r % (n + 1))) 136 h) * v)) ((fun q => if q = h then r % (n + 1) * v else f q)) (by omega) (by rw [r0, show B 125 1 - 1 - (h + -1) = (B 125 1 - 1 - h) + 1 by omega, bw_div (by omega) (by omega)]) (by omega) (by rw [e1, show (h + -1 + 1).toNat = h.toNat by omega]; omega) (by rw [e1]; omega) ((mm_G.u (by exact G3.u136)).to (fun q _ _ => by first | rfl | (rw [e1]))) (fun q q0 q1 => by
             by_cases z : q = h
             · rw [z]
               refine ⟨?_, by show (if h = h then _ else _) = _; rw [if_pos rfl, rq]⟩
               rw [fs_up_other (by decide), e1, rq]
             · have w := t3 q (by omega) q1
               refine ⟨?_, by show (if q = h then _ else _) = _; rw [if_neg z]; exact w.2⟩
               rw [fs_up_other (by decide), fs_up_at, if_neg z]
               exact w.1) (by rw [fs_up_other (by decide), fs_up_other (by decide)]; exact k3) (by rw [fs_up_other (by decide), fs_up_other (by decide)]; exact l3) (by omega)
  exact loop16 ((((((M 125 1) - 1)) + 1) : Int) + 1).toNat (c) (0) (((M 125 1) - 1)) M (g) (by omega) (by rw [show (B 125 1 - 1 - (M 125 1 - 1)).toNat = 0 by omega]; simp) (by omega) (by unfold bw_s; rw [show (M 125 1 - 1 + 1).toNat = (B 125 1).toNat by omega]; omega) (by omega) (hG) (fun q q0 q1 => by have w := hz q (by omega) q1; unfold bw_g; rw [if_neg (by omega)]; exact ⟨w.1, by rw [w.2]; omega⟩) (rfl) (rfl) (by omega)

theorem bw_sn {H n : Int} (hn : 0 ≤ n) (hH : 0 < H) : bw_s H (n + 1) n = n := by
  unfold bw_s
  have g : ∀ m : Nat, (m : Int) < H → fs_sum m (bw_g H (n + 1) n) = 0 := by
    intro m
    induction m with
    | zero => intro _; rfl
    | succ m ih =>
      intro w
      show fs_sum m _ + bw_g H (n + 1) n m = 0
      rw [ih (by omega)]
      unfold bw_g
      rw [if_pos (by omega)]
      have : n / (n + 1) ^ (H - 1 - m).toNat = 0 := by
        apply Int.ediv_eq_zero_of_lt hn
        have p : n + 1 ≤ (n + 1) ^ (H - 1 - m).toNat := by
          obtain ⟨e, he⟩ : ∃ e, (H - 1 - m).toNat = e + 1 := ⟨(H - 1 - m).toNat - 1, by omega⟩
          rw [he, Int.pow_succ]
          have h1 : 0 < (n + 1) ^ e := Int.pow_pos (by omega)
          have h2 : 1 * (n + 1) ≤ (n + 1) ^ e * (n + 1) := Int.mul_le_mul_of_nonneg_right (by omega) (by omega)
          omega
        omega
      rw [this]
      simp
  obtain ⟨m, hm⟩ : ∃ m, H.toNat = m + 1 := ⟨H.toNat - 1, by omega⟩
  rw [hm]
  show fs_sum m _ + bw_g H (n + 1) n m = n
  rw [g m (by omega)]
  unfold bw_g
  rw [if_pos (by omega), show (H - 1 - (m : Int)).toNat = 0 by omega]
  rw [Int.pow_zero, Int.ediv_one, Int.emod_eq_of_lt hn (by omega)]
  omega
theorem fs_m_ways {d : Nat} {M : fs_M} {Q : Option fs_V → fs_M → Prop} {n : Int} {v : Int} {B : fs_M} (hN : fs_NI (B 125)) (hG : mm_G B M (fun _ => 0)) (hH : 0 < B 125 1) (hn : 0 ≤ n ∧ n ≤ 4) (hv : 1 ≤ v ∧ v ≤ 999) (hz : ∀ q, 0 ≤ q → q < 6 → M 136 q = 0) (hq0 : ∀ (M2 : fs_M), (mm_q B M2) → (M2 124 30 = bw_m (B 125) n v ((n + 1) ^ (B 125 1).toNat).toNat) → (∀ q, 0 ≤ q → q < 6 → M2 137 q = bw_g (B 125 1) (n + 1) (bw_r (B 125) n v ((n + 1) ^ (B 125 1).toNat).toNat) q) → Q none M2) : fs_W (d + 9) 261 0 [some (.inr (.ref 124)), some (.inl n), some (.inl v), none, none, none, none] [] M Q := by
  obtain ⟨⟨hA0, hA1⟩, ⟨hH0, hH1⟩, -⟩ := id hN
  have n0 := congrFun hG.1.N 1
  refine fs_r_nop (L1 := [some (.inr (.ref 124)), some (.inl n), some (.inl v), some (.inl 1), some (.inl 0), none, none]) (st1 := []) (M1 := M) (ob := [3 < 7, 4 < 7]) rfl rfl (fs_oc (by decide) (fs_oc (by decide) trivial)) ?_
  have loop5 : ∀ (n5 : Nat) (k : Int) (h : Int) (zl5 : Option fs_V) (zl6 : Option fs_V), (0 ≤ h ∧ h ≤ B 125 1) → (k = (n + 1) ^ h.toNat) → B 125 1 - h < (n5 : Int) → fs_W (d + 9) 261 5 [some (.inr (.ref 124)), some (.inl n), some (.inl v), some (.inl k), some (.inl h), zl5, zl6] [] M Q := by
    intro n5
    induction n5 with
    | zero =>
      intro k h zl5 zl6 i0 k0 hm5
      exfalso
      omega
    | succ n5 ih5 =>
      intro k h zl5 zl6 i0 k0 hm5
      refine fs_r_icmp (a := h) (y := (M 125 1)) (L1 := [some (.inr (.ref 124)), some (.inl n), some (.inl v), some (.inl k), some (.inl h), zl5, zl6]) (st1 := []) (M1 := M) (ob := [124 < fs_N ∧ fs_kd 124 = 6, (125 < fs_N ∧ fs_kd 125 = 100) ∧ (0 : Int) ≤ 1 ∧ 1 < fs_ln 125]) rfl rfl (fs_oc fs_ob124 (fs_oc (fs_ar125 (by omega) (by omega)) trivial)) (fun (h1 : (M 125 1) ≤ h) => ?_) (fun (h1 : ¬ ((M 125 1) ≤ h)) => ?_)
      · have hh : h = B 125 1 := by omega
        subst hh
        have pw := bw_pow (b := n + 1) (H := B 125 1) (by omega) (by omega)
        refine fs_r_nop (L1 := [some (.inr (.ref 124)), some (.inl n), some (.inl v), some (.inl k), some (.inl 0), zl5, zl6]) (st1 := []) (M1 := (fs_up M 124 30 (-1))) (ob := [124 < fs_N ∧ fs_kd 124 = 6, 4 < 7]) rfl rfl (fs_oc fs_ob124 (fs_oc (by decide) trivial)) ?_
        have loop36 : ∀ (n36 : Nat) (c : Int) (zl5 : Option fs_V) (zl6 : Option fs_V) (M3 : fs_M) (g : Int → Int), (0 ≤ c ∧ c ≤ k) → (mm_G B M3 g) → (∀ q, B 125 1 ≤ q → q < 6 → M3 136 q = 0 ∧ g q = 0) → (M3 124 30 = bw_m (B 125) n v c.toNat ∧ -1 ≤ M3 124 30 ∧ M3 124 30 ≤ 288000) → (n < c → M3 124 30 ≠ -1) → (M3 124 30 ≠ -1 → ∀ q, 0 ≤ q → q < 6 → M3 137 q = bw_g (B 125 1) (n + 1) (bw_r (B 125) n v c.toNat) q) → k - c < (n36 : Int) → fs_W (d + 9) 261 36 [some (.inr (.ref 124)), some (.inl n), some (.inl v), some (.inl k), some (.inl c), zl5, zl6] [] M3 Q := by
          intro n36
          induction n36 with
          | zero =>
            intro c zl5 zl6 M3 g i1 G3 z3 m3 f3 t3 hm36
            exfalso
            omega
          | succ n36 ih36 =>
            intro c zl5 zl6 M3 g i1 G3 z3 m3 f3 t3 hm36
            refine fs_r_icmp (a := c) (y := k) (L1 := [some (.inr (.ref 124)), some (.inl n), some (.inl v), some (.inl k), some (.inl c), zl5, zl6]) (st1 := []) (M1 := M3) (ob := []) rfl rfl trivial (fun (h2 : k ≤ c) => ?_) (fun (h2 : ¬ (k ≤ c)) => ?_)
            · refine fs_r_ret (L1 := [some (.inr (.ref 124)), some (.inl n), some (.inl v), some (.inl k), some (.inl c), zl5, zl6]) (M1 := M3) (ob := []) rfl rfl trivial ?_
              have ck : c = k := by omega
              have kk : k.toNat = ((n + 1) ^ (B 125 1).toNat).toNat := by rw [k0]
              have f9 := f3
              rw [ck, kk] at m3 t3
              have nk : n < k := by
                rw [k0]
                obtain ⟨e, he⟩ : ∃ e, (B 125 1).toNat = e + 1 := ⟨(B 125 1).toNat - 1, by omega⟩
                rw [he, Int.pow_succ]
                have h1 : 0 < (n + 1) ^ e := Int.pow_pos (by omega)
                have h2 : 1 * (n + 1) ≤ (n + 1) ^ e * (n + 1) := Int.mul_le_mul_of_nonneg_right (by omega) (by omega)
                omega
              exact hq0 _ G3.1 m3.1 (t3 (f9 (by omega)))
            have og : gv_ok (fun q => bw_g (B 125 1) (n + 1) c q * v) := fun q q0 q1 => by
              have w := bw_g_b (H := B 125 1) (c := c) (show 0 < n + 1 by omega) q
              have w2 := bw_mul (x := bw_g (B 125 1) (n + 1) c q) (v := v) (by omega) (by omega)
              show 0 ≤ bw_g (B 125 1) (n + 1) c q * v ∧ bw_g (B 125 1) (n + 1) c q * v ≤ 9999
              omega
            have bs := bw_m_s (N := B 125) (n := n) (v := v) (c := c) (by omega)
            have br := bw_r_s (N := B 125) (n := n) (v := v) (c := c) (by omega)
            have gz : ∀ q, B 125 1 ≤ q → q < 6 → bw_g (B 125 1) (n + 1) c q = 0 ∧ bw_g (B 125 1) (n + 1) c q * v = 0 := fun q q0 q1 => by
              have w : bw_g (B 125 1) (n + 1) c q = 0 := by unfold bw_g; rw [if_neg (by omega)]
              rw [w]
              exact ⟨rfl, Int.zero_mul v⟩
            refine fs_r_call (sta := false) (idx := 324) (as := [.inr (.ref 124), .inl c, .inl n, .inl v]) (rest := []) (L1 := [some (.inr (.ref 124)), some (.inl n), some (.inl v), some (.inl k), some (.inl c), zl5, zl6]) (st1 := [.inl v, .inl n, .inl c, .inr (.ref 124)]) (M1 := M3) (ob := []) rfl rfl rfl trivial rfl rfl (Nat.le_of_ble_eq_true rfl) ⟨Or.inr (Nat.le_of_ble_eq_true rfl), Or.inr fs_ob124⟩ (by decide) ?_
            refine fs_m_isRow (hN) (G3) (by omega) (by omega) (by omega) (fun q q0 q1 => z3 q q0 q1) (fun (V0 : fs_M) (c4 : bw_s (B 125 1) (n + 1) c = n) (G4 : mm_G B V0 (fun q => bw_g (B 125 1) (n + 1) c q * v)) (t4 : ∀ q, 0 ≤ q → q < 6 → V0 136 q = bw_g (B 125 1) (n + 1) c q) (k4 : V0 137 = M3 137) (l4 : V0 124 30 = M3 124 30) => ?_) (fun (V0 : fs_M) (c4 : ¬ bw_s (B 125 1) (n + 1) c = n) (G4 : mm_G B V0 (fun q => bw_g (B 125 1) (n + 1) c q * v)) (t4 : ∀ q, 0 ≤ q → q < 6 → V0 136 q = bw_g (B 125 1) (n + 1) c q) (k4 : V0 137 = M3 137) (l4 : V0 124 30 = M3 124 30) => ?_)
            · refine fs_r_if (a := 1) (L1 := [some (.inr (.ref 124)), some (.inl n), some (.inl v), some (.inl k), some (.inl c), zl5, zl6]) (st1 := []) (M1 := V0) (ob := []) rfl rfl trivial (fun _ => ?_) (fun h => absurd (by decide : ¬ (1 : Int) = 0) h)
              have IG := G4.I hN og
              have lG := G4.l hN og
              refine fs_r_call (sta := false) (idx := 312) (as := [.inr (.ref 124)]) (rest := []) (L1 := [some (.inr (.ref 124)), some (.inl n), some (.inl v), some (.inl k), some (.inl c), zl5, zl6]) (st1 := [.inr (.ref 124)]) (M1 := V0) (ob := []) rfl rfl rfl trivial rfl rfl (Nat.le_of_ble_eq_true rfl) ⟨Or.inr (Nat.le_of_ble_eq_true rfl), Or.inr fs_ob124⟩ (by decide) ?_
              refine fs_m_lostNow (IG) (fun (x : Int) (V1 : fs_M) (g1 : mm_f3 V0 V1) (xe : x = ec_lost (mm_E V0) (ec_lst (mm_E V0))) (gg : 0 ≤ x ∧ x ≤ 288000) => ?_)
              rw [lG] at xe
              have xl : x = bw_l (B 125) (n + 1) v c := xe
              have G5 := G4.f3 g1
              have l5 : V1 124 30 = M3 124 30 := (g1.2 30 (by decide) (by decide) (by decide)).trans l4
              have k5 : V1 137 = M3 137 := (g1.1 137 (by decide) (by decide) (by decide)).trans k4
              have s5 : V1 136 = V0 136 := g1.1 136 (by decide) (by decide) (by decide)
              refine fs_r_icmp (a := (V1 124 30)) (y := (-1)) (L1 := [some (.inr (.ref 124)), some (.inl n), some (.inl v), some (.inl k), some (.inl c), some (.inl x), zl6]) (st1 := []) (M1 := V1) (ob := [5 < 7, 124 < fs_N ∧ fs_kd 124 = 6]) rfl rfl (fs_oc (by decide) (fs_oc fs_ob124 trivial)) (fun (h3 : (V1 124 30) = (-1)) => ?_) (fun (h3 : ¬ ((V1 124 30) = (-1))) => ?_)
              · refine fs_r_nop (L1 := [some (.inr (.ref 124)), some (.inl n), some (.inl v), some (.inl k), some (.inl c), some (.inl x), some (.inl 0)]) (st1 := []) (M1 := (fs_up V1 124 30 x)) (ob := [124 < fs_N ∧ fs_kd 124 = 6, 6 < 7]) rfl rfl (fs_oc fs_ob124 (fs_oc (by decide) trivial)) ?_
                have loop91 : ∀ (n91 : Nat) (j : Int) (M5 : fs_M), (0 ≤ j ∧ j ≤ 6) → (mm_G B M5 (fun q => bw_g (B 125 1) (n + 1) c q * v)) → (∀ q, 0 ≤ q → q < 6 → M5 136 q = bw_g (B 125 1) (n + 1) c q) → (M5 124 30 = x) → (∀ q, 0 ≤ q → q < j → M5 137 q = bw_g (B 125 1) (n + 1) c q) → 6 - j < (n91 : Int) → fs_W (d + 9) 261 91 [some (.inr (.ref 124)), some (.inl n), some (.inl v), some (.inl k), some (.inl c), some (.inl x), some (.inl j)] [] M5 Q := by
                  intro n91
                  induction n91 with
                  | zero =>
                    intro j M5 j0 G6 s6 l6 t6 hm91
                    exfalso
                    omega
                  | succ n91 ih91 =>
                    intro j M5 j0 G6 s6 l6 t6 hm91
                    refine fs_r_icmp (a := j) (y := 6) (L1 := [some (.inr (.ref 124)), some (.inl n), some (.inl v), some (.inl k), some (.inl c), some (.inl x), some (.inl j)]) (st1 := []) (M1 := M5) (ob := []) rfl rfl trivial (fun (h4 : 6 ≤ j) => ?_) (fun (h4 : ¬ (6 ≤ j)) => ?_)
                    · refine fs_r_goto (L1 := [some (.inr (.ref 124)), some (.inl n), some (.inl v), some (.inl k), some (.inl (c + 1)), some (.inl x), some (.inl j)]) (st1 := []) (M1 := M5) (ob := [fs_rg (c + 1)]) rfl rfl (fs_oc ⟨by omega, by omega⟩ trivial) ?_
                      exact ih36 ((c + 1)) (some (.inl x)) (some (.inl j)) M5 ((fun q => bw_g (B 125 1) (n + 1) c q * v)) (by omega) (by first | exact G4 | exact G5 | exact G6) (fun q q0 q1 => by
                             refine ⟨?_, (gz q q0 q1).2⟩
                             first
                               | (rw [s6 q (by omega) q1]; exact (gz q q0 q1).1)
                               | (rw [s5, t4 q (by omega) q1]; exact (gz q q0 q1).1)
                               | (rw [t4 q (by omega) q1]; exact (gz q q0 q1).1)) (by
                             rw [bs]
                             first
                               | (rw [if_pos (by omega), l6]; exact ⟨xl, by omega, by omega⟩)
                               | (rw [if_neg (by omega), l5]; exact m3)
                               | (rw [if_neg (by omega), l4]; exact m3)) (fun z => by
                             first
                               | (rw [l6]; omega)
                               | (rw [l5]; omega)
                               | (rw [l4]
                                  rcases (show n < c ∨ n = c by omega) with w | w
                                  · exact f3 w
                                  · exact absurd (by rw [← w]; exact bw_sn (by omega) hH) c4)) (fun z => by
                             rw [br]
                             first
                               | (rw [if_pos (by omega)]; exact fun q q0 q1 => t6 q q0 (by omega))
                               | (rw [if_neg (by omega), k5]; exact t3 (by omega))
                               | (rw [if_neg (by omega), k4]; exact t3 (by omega))) (by omega)
                    refine fs_r_goto (L1 := [some (.inr (.ref 124)), some (.inl n), some (.inl v), some (.inl k), some (.inl c), some (.inl x), some (.inl (j + 1))]) (st1 := []) (M1 := (fs_up M5 137 j (M5 136 j))) (ob := [124 < fs_N ∧ fs_kd 124 = 6, 124 < fs_N ∧ fs_kd 124 = 6, (136 < fs_N ∧ fs_kd 136 = 100) ∧ (0 : Int) ≤ j ∧ j < fs_ln 136, (137 < fs_N ∧ fs_kd 137 = 100) ∧ (0 : Int) ≤ j ∧ j < fs_ln 137, fs_rg (j + 1)]) rfl (fs_exA 6 (o1 := [124 < fs_N ∧ fs_kd 124 = 6, 124 < fs_N ∧ fs_kd 124 = 6]) (L1 := [some (.inr (.ref 124)), some (.inl n), some (.inl v), some (.inl k), some (.inl c), some (.inl x), some (.inl j)]) (st1 := [.inl j, .inr (.ref 136), .inl j, .inr (.ref 137)]) (M1 := M5) (o2 := [(136 < fs_N ∧ fs_kd 136 = 100) ∧ (0 : Int) ≤ j ∧ j < fs_ln 136, (137 < fs_N ∧ fs_kd 137 = 100) ∧ (0 : Int) ≤ j ∧ j < fs_ln 137, fs_rg (j + 1)]) rfl rfl) (fs_oc fs_ob124 (fs_oc fs_ob124 (fs_oc (fs_ar136 (by omega) (by omega)) (fs_oc (fs_ar137 (by omega) (by omega)) (fs_oc ⟨by omega, by omega⟩ trivial))))) ?_
                    exact ih91 ((j + 1)) (fs_up M5 137 j (M5 136 j)) (by omega) (G6.u137) (fun q q0 q1 => by rw [fs_up_other (by decide)]; exact s6 q q0 q1) (by rw [fs_up_other (by decide)]; exact l6) (fun q q0 q1 => by rw [fs_up_at]; by_cases z : q = j; (rw [if_pos z, z]; exact s6 j (by omega) (by omega)); (rw [if_neg z]; exact t6 q q0 (by omega))) (by omega)
                exact loop91 (((6 - (0)) : Int) + 1).toNat (0) (fs_up V1 124 30 x) (by omega) (G5.u30) (fun q q0 q1 => by rw [fs_up_other (by decide), s5]; exact t4 q q0 q1) (by rw [fs_up_at, if_pos rfl]) (fun q q0 q1 => by omega) (by omega)
              refine fs_r_icmp (a := x) (y := (V1 124 30)) (L1 := [some (.inr (.ref 124)), some (.inl n), some (.inl v), some (.inl k), some (.inl c), some (.inl x), zl6]) (st1 := []) (M1 := V1) (ob := [124 < fs_N ∧ fs_kd 124 = 6]) rfl rfl (fs_oc fs_ob124 trivial) (fun (h5 : x < (V1 124 30)) => ?_) (fun (h5 : ¬ (x < (V1 124 30))) => ?_)
              · refine fs_r_nop (L1 := [some (.inr (.ref 124)), some (.inl n), some (.inl v), some (.inl k), some (.inl c), some (.inl x), some (.inl 0)]) (st1 := []) (M1 := (fs_up V1 124 30 x)) (ob := [124 < fs_N ∧ fs_kd 124 = 6, 6 < 7]) rfl rfl (fs_oc fs_ob124 (fs_oc (by decide) trivial)) ?_
                have loop91 : ∀ (n91 : Nat) (j : Int) (M5 : fs_M), (0 ≤ j ∧ j ≤ 6) → (mm_G B M5 (fun q => bw_g (B 125 1) (n + 1) c q * v)) → (∀ q, 0 ≤ q → q < 6 → M5 136 q = bw_g (B 125 1) (n + 1) c q) → (M5 124 30 = x) → (∀ q, 0 ≤ q → q < j → M5 137 q = bw_g (B 125 1) (n + 1) c q) → 6 - j < (n91 : Int) → fs_W (d + 9) 261 91 [some (.inr (.ref 124)), some (.inl n), some (.inl v), some (.inl k), some (.inl c), some (.inl x), some (.inl j)] [] M5 Q := by
                  intro n91
                  induction n91 with
                  | zero =>
                    intro j M5 j0 G6 s6 l6 t6 hm91
                    exfalso
                    omega
                  | succ n91 ih91 =>
                    intro j M5 j0 G6 s6 l6 t6 hm91
                    refine fs_r_icmp (a := j) (y := 6) (L1 := [some (.inr (.ref 124)), some (.inl n), some (.inl v), some (.inl k), some (.inl c), some (.inl x), some (.inl j)]) (st1 := []) (M1 := M5) (ob := []) rfl rfl trivial (fun (h6 : 6 ≤ j) => ?_) (fun (h6 : ¬ (6 ≤ j)) => ?_)
                    · refine fs_r_goto (L1 := [some (.inr (.ref 124)), some (.inl n), some (.inl v), some (.inl k), some (.inl (c + 1)), some (.inl x), some (.inl j)]) (st1 := []) (M1 := M5) (ob := [fs_rg (c + 1)]) rfl rfl (fs_oc ⟨by omega, by omega⟩ trivial) ?_
                      exact ih36 ((c + 1)) (some (.inl x)) (some (.inl j)) M5 ((fun q => bw_g (B 125 1) (n + 1) c q * v)) (by omega) (by first | exact G4 | exact G5 | exact G6) (fun q q0 q1 => by
                             refine ⟨?_, (gz q q0 q1).2⟩
                             first
                               | (rw [s6 q (by omega) q1]; exact (gz q q0 q1).1)
                               | (rw [s5, t4 q (by omega) q1]; exact (gz q q0 q1).1)
                               | (rw [t4 q (by omega) q1]; exact (gz q q0 q1).1)) (by
                             rw [bs]
                             first
                               | (rw [if_pos (by omega), l6]; exact ⟨xl, by omega, by omega⟩)
                               | (rw [if_neg (by omega), l5]; exact m3)
                               | (rw [if_neg (by omega), l4]; exact m3)) (fun z => by
                             first
                               | (rw [l6]; omega)
                               | (rw [l5]; omega)
                               | (rw [l4]
                                  rcases (show n < c ∨ n = c by omega) with w | w
                                  · exact f3 w
                                  · exact absurd (by rw [← w]; exact bw_sn (by omega) hH) c4)) (fun z => by
                             rw [br]
                             first
                               | (rw [if_pos (by omega)]; exact fun q q0 q1 => t6 q q0 (by omega))
                               | (rw [if_neg (by omega), k5]; exact t3 (by omega))
                               | (rw [if_neg (by omega), k4]; exact t3 (by omega))) (by omega)
                    refine fs_r_goto (L1 := [some (.inr (.ref 124)), some (.inl n), some (.inl v), some (.inl k), some (.inl c), some (.inl x), some (.inl (j + 1))]) (st1 := []) (M1 := (fs_up M5 137 j (M5 136 j))) (ob := [124 < fs_N ∧ fs_kd 124 = 6, 124 < fs_N ∧ fs_kd 124 = 6, (136 < fs_N ∧ fs_kd 136 = 100) ∧ (0 : Int) ≤ j ∧ j < fs_ln 136, (137 < fs_N ∧ fs_kd 137 = 100) ∧ (0 : Int) ≤ j ∧ j < fs_ln 137, fs_rg (j + 1)]) rfl (fs_exA 6 (o1 := [124 < fs_N ∧ fs_kd 124 = 6, 124 < fs_N ∧ fs_kd 124 = 6]) (L1 := [some (.inr (.ref 124)), some (.inl n), some (.inl v), some (.inl k), some (.inl c), some (.inl x), some (.inl j)]) (st1 := [.inl j, .inr (.ref 136), .inl j, .inr (.ref 137)]) (M1 := M5) (o2 := [(136 < fs_N ∧ fs_kd 136 = 100) ∧ (0 : Int) ≤ j ∧ j < fs_ln 136, (137 < fs_N ∧ fs_kd 137 = 100) ∧ (0 : Int) ≤ j ∧ j < fs_ln 137, fs_rg (j + 1)]) rfl rfl) (fs_oc fs_ob124 (fs_oc fs_ob124 (fs_oc (fs_ar136 (by omega) (by omega)) (fs_oc (fs_ar137 (by omega) (by omega)) (fs_oc ⟨by omega, by omega⟩ trivial))))) ?_
                    exact ih91 ((j + 1)) (fs_up M5 137 j (M5 136 j)) (by omega) (G6.u137) (fun q q0 q1 => by rw [fs_up_other (by decide)]; exact s6 q q0 q1) (by rw [fs_up_other (by decide)]; exact l6) (fun q q0 q1 => by rw [fs_up_at]; by_cases z : q = j; (rw [if_pos z, z]; exact s6 j (by omega) (by omega)); (rw [if_neg z]; exact t6 q q0 (by omega))) (by omega)
                exact loop91 (((6 - (0)) : Int) + 1).toNat (0) (fs_up V1 124 30 x) (by omega) (G5.u30) (fun q q0 q1 => by rw [fs_up_other (by decide), s5]; exact t4 q q0 q1) (by rw [fs_up_at, if_pos rfl]) (fun q q0 q1 => by omega) (by omega)
              refine fs_r_goto (L1 := [some (.inr (.ref 124)), some (.inl n), some (.inl v), some (.inl k), some (.inl c), some (.inl x), zl6]) (st1 := []) (M1 := V1) (ob := []) rfl rfl trivial ?_
              refine fs_r_goto (L1 := [some (.inr (.ref 124)), some (.inl n), some (.inl v), some (.inl k), some (.inl (c + 1)), some (.inl x), zl6]) (st1 := []) (M1 := V1) (ob := [fs_rg (c + 1)]) rfl rfl (fs_oc ⟨by omega, by omega⟩ trivial) ?_
              exact ih36 ((c + 1)) (some (.inl x)) (zl6) V1 ((fun q => bw_g (B 125 1) (n + 1) c q * v)) (by omega) (by first | exact G4 | exact G5 | exact G6) (fun q q0 q1 => by
                     refine ⟨?_, (gz q q0 q1).2⟩
                     first
                       | (rw [s6 q (by omega) q1]; exact (gz q q0 q1).1)
                       | (rw [s5, t4 q (by omega) q1]; exact (gz q q0 q1).1)
                       | (rw [t4 q (by omega) q1]; exact (gz q q0 q1).1)) (by
                     rw [bs]
                     first
                       | (rw [if_pos (by omega), l6]; exact ⟨xl, by omega, by omega⟩)
                       | (rw [if_neg (by omega), l5]; exact m3)
                       | (rw [if_neg (by omega), l4]; exact m3)) (fun z => by
                     first
                       | (rw [l6]; omega)
                       | (rw [l5]; omega)
                       | (rw [l4]
                          rcases (show n < c ∨ n = c by omega) with w | w
                          · exact f3 w
                          · exact absurd (by rw [← w]; exact bw_sn (by omega) hH) c4)) (fun z => by
                     rw [br]
                     first
                       | (rw [if_pos (by omega)]; exact fun q q0 q1 => t6 q q0 (by omega))
                       | (rw [if_neg (by omega), k5]; exact t3 (by omega))
                       | (rw [if_neg (by omega), k4]; exact t3 (by omega))) (by omega)
            refine fs_r_if (a := 0) (L1 := [some (.inr (.ref 124)), some (.inl n), some (.inl v), some (.inl k), some (.inl c), zl5, zl6]) (st1 := []) (M1 := V0) (ob := []) rfl rfl trivial (fun h => absurd h (by decide : ¬ (¬ (0 : Int) = 0))) (fun _ => ?_)
            refine fs_r_goto (L1 := [some (.inr (.ref 124)), some (.inl n), some (.inl v), some (.inl k), some (.inl c), zl5, zl6]) (st1 := []) (M1 := V0) (ob := []) rfl rfl trivial ?_
            refine fs_r_goto (L1 := [some (.inr (.ref 124)), some (.inl n), some (.inl v), some (.inl k), some (.inl (c + 1)), zl5, zl6]) (st1 := []) (M1 := V0) (ob := [fs_rg (c + 1)]) rfl rfl (fs_oc ⟨by omega, by omega⟩ trivial) ?_
            exact ih36 ((c + 1)) (zl5) (zl6) V0 ((fun q => bw_g (B 125 1) (n + 1) c q * v)) (by omega) (by first | exact G4 | exact G5 | exact G6) (fun q q0 q1 => by
                   refine ⟨?_, (gz q q0 q1).2⟩
                   first
                     | (rw [s6 q (by omega) q1]; exact (gz q q0 q1).1)
                     | (rw [s5, t4 q (by omega) q1]; exact (gz q q0 q1).1)
                     | (rw [t4 q (by omega) q1]; exact (gz q q0 q1).1)) (by
                   rw [bs]
                   first
                     | (rw [if_pos (by omega), l6]; exact ⟨xl, by omega, by omega⟩)
                     | (rw [if_neg (by omega), l5]; exact m3)
                     | (rw [if_neg (by omega), l4]; exact m3)) (fun z => by
                   first
                     | (rw [l6]; omega)
                     | (rw [l5]; omega)
                     | (rw [l4]
                        rcases (show n < c ∨ n = c by omega) with w | w
                        · exact f3 w
                        · exact absurd (by rw [← w]; exact bw_sn (by omega) hH) c4)) (fun z => by
                   rw [br]
                   first
                     | (rw [if_pos (by omega)]; exact fun q q0 q1 => t6 q q0 (by omega))
                     | (rw [if_neg (by omega), k5]; exact t3 (by omega))
                     | (rw [if_neg (by omega), k4]; exact t3 (by omega))) (by omega)
        exact loop36 (((k - (0)) : Int) + 1).toNat (0) (zl5) (zl6) (fs_up M 124 30 (-1)) ((fun _ => 0)) (by omega) (hG.u30) (fun q q0 q1 => ⟨hz q (by omega) q1, rfl⟩) (⟨rfl, by show (-1 : Int) ≤ -1; omega, by show (-1 : Int) ≤ 288000; omega⟩) (fun z => by omega) (fun z => absurd rfl z) (by omega)
      have pw := bw_pow (b := n + 1) (H := h) (by omega) (by omega)
      have pw2 := bw_pow (b := n + 1) (H := h + 1) (by omega) (by omega)
      have ps := bw_pow_s (b := n + 1) (h := h) (by omega)
      rw [← k0] at ps pw
      refine fs_r_goto (L1 := [some (.inr (.ref 124)), some (.inl n), some (.inl v), some (.inl (k * (n + 1))), some (.inl (h + 1)), zl5, zl6]) (st1 := []) (M1 := M) (ob := [fs_rg (n + 1), fs_rg (k * (n + 1)), 3 < 7, fs_rg (h + 1)]) rfl rfl (fs_oc ⟨by omega, by omega⟩ (fs_oc ⟨by omega, by omega⟩ (fs_oc (by decide) (fs_oc ⟨by omega, by omega⟩ trivial)))) ?_
      exact ih5 ((k * (n + 1))) ((h + 1)) (zl5) (zl6) (by omega) (by rw [ps]) (by omega)
  exact loop5 (((B 125 1 - (0)) : Int) + 1).toNat (1) (0) (none) (none) (by omega) (by rw [show Int.toNat 0 = 0 from rfl, Int.pow_zero]) (by omega)

theorem fs_m_bestAid {d : Nat} {M : fs_M} {Q : Option fs_V → fs_M → Prop} {n : Int} {v : Int} {h : Int}  (hI : fs_NI (M 125)) (hq0 : ∀ (M2 : fs_M), (mm_q M M2) → Q (some (.inl (rq_bestAid (M 125) n v h))) M2) : fs_W (d + 10) 262 0 [some (.inr (.ref 124)), some (.inl n), some (.inl v), some (.inl h), none] [] M Q := by
  have hN := hI
  have hb := hN.2.1
  refine fs_r_call (sta := true) (idx := 68) (as := [.inl n, .inl 0, .inl 4]) (rest := []) (L1 := [some (.inr (.ref 124)), some (.inl n), some (.inl v), some (.inl h), none]) (st1 := [.inl 4, .inl 0, .inl n]) (M1 := M) (ob := []) rfl rfl rfl trivial rfl rfl (Nat.le_of_ble_eq_true rfl) ⟨Or.inr (Nat.le_of_ble_eq_true rfl), trivial⟩ (by decide) ?_
  refine fs_m_isIn (fun (f1 : 0 ≤ n ∧ n ≤ 4) => ?_) (fun (f2 : ¬ (0 ≤ n ∧ n ≤ 4)) => ?_)
  · refine fs_r_if (a := 1) (L1 := [some (.inr (.ref 124)), some (.inl n), some (.inl v), some (.inl h), none]) (st1 := []) (M1 := M) (ob := []) rfl rfl trivial (fun h => absurd h (by decide : ¬ ((1 : Int) = 0))) (fun _ => ?_)
    refine fs_r_call (sta := true) (idx := 68) (as := [.inl v, .inl 1, .inl 999]) (rest := []) (L1 := [some (.inr (.ref 124)), some (.inl n), some (.inl v), some (.inl h), none]) (st1 := [.inl 999, .inl 1, .inl v]) (M1 := M) (ob := []) rfl rfl rfl trivial rfl rfl (Nat.le_of_ble_eq_true rfl) ⟨Or.inr (Nat.le_of_ble_eq_true rfl), trivial⟩ (by decide) ?_
    refine fs_m_isIn (fun (f3 : 1 ≤ v ∧ v ≤ 999) => ?_) (fun (f4 : ¬ (1 ≤ v ∧ v ≤ 999)) => ?_)
    · refine fs_r_if (a := 1) (L1 := [some (.inr (.ref 124)), some (.inl n), some (.inl v), some (.inl h), none]) (st1 := []) (M1 := M) (ob := []) rfl rfl trivial (fun h => absurd h (by decide : ¬ ((1 : Int) = 0))) (fun _ => ?_)
      refine fs_r_icmp (a := h) (y := (-1)) (L1 := [some (.inr (.ref 124)), some (.inl n), some (.inl v), some (.inl h), none]) (st1 := []) (M1 := M) (ob := []) rfl rfl trivial (fun (h5 : h = (-1)) => ?_) (fun (h5 : ¬ (h = (-1))) => ?_)
      · refine fs_r_if (a := (M 125 1)) (L1 := [some (.inr (.ref 124)), some (.inl n), some (.inl v), some (.inl h), none]) (st1 := []) (M1 := M) (ob := [124 < fs_N ∧ fs_kd 124 = 6, (125 < fs_N ∧ fs_kd 125 = 100) ∧ (0 : Int) ≤ 1 ∧ 1 < fs_ln 125]) rfl rfl (fs_oc fs_ob124 (fs_oc (fs_ar125 (by omega) (by omega)) trivial)) (fun (h6 : ¬ (M 125 1) = 0) => ?_) (fun (h6 : ¬ (¬ (M 125 1) = 0)) => ?_)
        · refine fs_r_call (sta := false) (idx := 252) (as := [.inr (.ref 124)]) (rest := []) (L1 := [some (.inr (.ref 124)), some (.inl n), some (.inl v), some (.inl h), none]) (st1 := [.inr (.ref 124)]) (M1 := M) (ob := []) rfl rfl rfl trivial rfl rfl (Nat.le_of_ble_eq_true rfl) ⟨Or.inr (Nat.le_of_ble_eq_true rfl), Or.inr fs_ob124⟩ (by decide) ?_
          refine fs_m_plain (fun (P1 : fs_M) (pp : mm_P M P1) => ?_)
          refine fs_r_nop (L1 := [some (.inr (.ref 124)), some (.inl n), some (.inl v), some (.inl h), some (.inl 0)]) (st1 := []) (M1 := P1) (ob := [4 < 5]) rfl rfl (fs_oc (by decide) trivial) ?_
          have loop54 : ∀ (n54 : Nat) (a : Int) (M4 : fs_M), (0 ≤ a ∧ a ≤ 6) → (mm_G M M4 (fun _ => 0)) → (∀ q, 0 ≤ q → q < a → M4 136 q = 0) → 6 - a < (n54 : Int) → fs_W (d + 10) 262 54 [some (.inr (.ref 124)), some (.inl n), some (.inl v), some (.inl h), some (.inl a)] [] M4 Q := by
            intro n54
            induction n54 with
            | zero =>
              intro a M4 a0 G4 t4 hm54
              exfalso
              omega
            | succ n54 ih54 =>
              intro a M4 a0 G4 t4 hm54
              refine fs_r_icmp (a := a) (y := 6) (L1 := [some (.inr (.ref 124)), some (.inl n), some (.inl v), some (.inl h), some (.inl a)]) (st1 := []) (M1 := M4) (ob := []) rfl rfl trivial (fun (h7 : 6 ≤ a) => ?_) (fun (h7 : ¬ (6 ≤ a)) => ?_)
              · refine fs_r_call (sta := false) (idx := 327) (as := [.inr (.ref 124), .inl n, .inl v]) (rest := []) (L1 := [some (.inr (.ref 124)), some (.inl n), some (.inl v), some (.inl h), some (.inl a)]) (st1 := [.inl v, .inl n, .inr (.ref 124)]) (M1 := M4) (ob := []) rfl rfl rfl trivial rfl rfl (Nat.le_of_ble_eq_true rfl) ⟨Or.inr (Nat.le_of_ble_eq_true rfl), Or.inr fs_ob124⟩ (by decide) ?_
                refine fs_m_ways (hN) (G4) (by omega) (by omega) (by omega) (fun q q0 q1 => t4 q q0 (by omega)) (fun (V1 : fs_M) (q1 : mm_q M V1) (l1 : V1 124 30 = bw_m (M 125) n v ((n + 1) ^ (M 125 1).toNat).toNat) (t1 : ∀ q, 0 ≤ q → q < 6 → V1 137 q = bw_g (M 125 1) (n + 1) (bw_r (M 125) n v ((n + 1) ^ (M 125 1).toNat).toNat) q) => ?_)
                refine fs_r_icmp (a := h) (y := (-1)) (L1 := [some (.inr (.ref 124)), some (.inl n), some (.inl v), some (.inl h), some (.inl a)]) (st1 := []) (M1 := V1) (ob := []) rfl rfl trivial (fun (h8 : ¬ h = (-1)) => ?_) (fun (h8 : ¬ (¬ h = (-1))) => ?_)
                · refine fs_r_nop (L1 := [some (.inr (.ref 124)), some (.inl n), some (.inl v), some (.inl h), some (.inl a)]) (st1 := [.inl (V1 137 h)]) (M1 := V1) (ob := [124 < fs_N ∧ fs_kd 124 = 6, (137 < fs_N ∧ fs_kd 137 = 100) ∧ (0 : Int) ≤ h ∧ h < fs_ln 137]) rfl rfl (fs_oc fs_ob124 (fs_oc (fs_ar137 (by omega) (by omega)) trivial)) ?_
                  refine fs_r_iret (a := (V1 137 h)) (L1 := [some (.inr (.ref 124)), some (.inl n), some (.inl v), some (.inl h), some (.inl a)]) (M1 := V1) (ob := []) rfl rfl trivial (Or.inl rfl) ?_
                  first
                    | (exfalso; omega)
                    | exact fs_qi (by unfold rq_bestAid; rw [if_pos ⟨by assumption, by assumption, by omega⟩, if_neg (by omega), if_pos (by omega), l1]) (hq0 _ q1)
                    | exact fs_qi (by unfold rq_bestAid; rw [if_pos ⟨by assumption, by assumption, by omega⟩, if_neg (by omega), if_neg (by omega), t1 h (by omega) (by omega)]) (hq0 _ q1)
                refine fs_r_goto (L1 := [some (.inr (.ref 124)), some (.inl n), some (.inl v), some (.inl h), some (.inl a)]) (st1 := [.inl (V1 124 30)]) (M1 := V1) (ob := [124 < fs_N ∧ fs_kd 124 = 6]) rfl rfl (fs_oc fs_ob124 trivial) ?_
                refine fs_r_iret (a := (V1 124 30)) (L1 := [some (.inr (.ref 124)), some (.inl n), some (.inl v), some (.inl h), some (.inl a)]) (M1 := V1) (ob := []) rfl rfl trivial (Or.inl rfl) ?_
                first
                  | (exfalso; omega)
                  | exact fs_qi (by unfold rq_bestAid; rw [if_pos ⟨by assumption, by assumption, by omega⟩, if_neg (by omega), if_pos (by omega), l1]) (hq0 _ q1)
                  | exact fs_qi (by unfold rq_bestAid; rw [if_pos ⟨by assumption, by assumption, by omega⟩, if_neg (by omega), if_neg (by omega), t1 h (by omega) (by omega)]) (hq0 _ q1)
              refine fs_r_goto (L1 := [some (.inr (.ref 124)), some (.inl n), some (.inl v), some (.inl h), some (.inl (a + 1))]) (st1 := []) (M1 := (fs_up M4 136 a 0)) (ob := [124 < fs_N ∧ fs_kd 124 = 6, (136 < fs_N ∧ fs_kd 136 = 100) ∧ (0 : Int) ≤ a ∧ a < fs_ln 136, fs_rg (a + 1)]) rfl rfl (fs_oc fs_ob124 (fs_oc (fs_ar136 (by omega) (by omega)) (fs_oc ⟨by omega, by omega⟩ trivial))) ?_
              exact ih54 ((a + 1)) (fs_up M4 136 a 0) (by omega) (G4.u136) (fun q q0 q1 => by rw [fs_up_at]; split; rfl; exact t4 q q0 (by omega)) (by omega)
          exact loop54 (((6 - (0)) : Int) + 1).toNat (0) P1 (by omega) (mm_G.P pp) (fun q q0 q1 => by omega) (by omega)
        refine fs_r_iret (a := (-2)) (L1 := [some (.inr (.ref 124)), some (.inl n), some (.inl v), some (.inl h), none]) (M1 := M) (ob := []) rfl rfl trivial (Or.inl rfl) ?_
        exact fs_qi (by unfold rq_bestAid; rw [if_pos ⟨by assumption, by assumption, by first | exact Or.inl (by assumption) | exact Or.inr (by assumption)⟩, if_pos (by omega)]) (hq0 _ mm_q.rf)
      refine fs_r_call (sta := false) (idx := 237) (as := [.inr (.ref 124), .inl h]) (rest := []) (L1 := [some (.inr (.ref 124)), some (.inl n), some (.inl v), some (.inl h), none]) (st1 := [.inl h, .inr (.ref 124)]) (M1 := M) (ob := []) rfl rfl rfl trivial rfl rfl (Nat.le_of_ble_eq_true rfl) ⟨Or.inr (Nat.le_of_ble_eq_true rfl), Or.inr fs_ob124⟩ (by decide) ?_
      refine fs_m_isHouse (by assumption) (fun (f9 : 0 ≤ h ∧ h < M 125 1) => ?_) (fun (f10 : ¬ (0 ≤ h ∧ h < M 125 1)) => ?_)
      · refine fs_r_if (a := 1) (L1 := [some (.inr (.ref 124)), some (.inl n), some (.inl v), some (.inl h), none]) (st1 := []) (M1 := M) (ob := []) rfl rfl trivial (fun _ => ?_) (fun h => absurd (by decide : ¬ (1 : Int) = 0) h)
        refine fs_r_if (a := (M 125 1)) (L1 := [some (.inr (.ref 124)), some (.inl n), some (.inl v), some (.inl h), none]) (st1 := []) (M1 := M) (ob := [124 < fs_N ∧ fs_kd 124 = 6, (125 < fs_N ∧ fs_kd 125 = 100) ∧ (0 : Int) ≤ 1 ∧ 1 < fs_ln 125]) rfl rfl (fs_oc fs_ob124 (fs_oc (fs_ar125 (by omega) (by omega)) trivial)) (fun (h11 : ¬ (M 125 1) = 0) => ?_) (fun (h11 : ¬ (¬ (M 125 1) = 0)) => ?_)
        · refine fs_r_call (sta := false) (idx := 252) (as := [.inr (.ref 124)]) (rest := []) (L1 := [some (.inr (.ref 124)), some (.inl n), some (.inl v), some (.inl h), none]) (st1 := [.inr (.ref 124)]) (M1 := M) (ob := []) rfl rfl rfl trivial rfl rfl (Nat.le_of_ble_eq_true rfl) ⟨Or.inr (Nat.le_of_ble_eq_true rfl), Or.inr fs_ob124⟩ (by decide) ?_
          refine fs_m_plain (fun (P1 : fs_M) (pp : mm_P M P1) => ?_)
          refine fs_r_nop (L1 := [some (.inr (.ref 124)), some (.inl n), some (.inl v), some (.inl h), some (.inl 0)]) (st1 := []) (M1 := P1) (ob := [4 < 5]) rfl rfl (fs_oc (by decide) trivial) ?_
          have loop54 : ∀ (n54 : Nat) (a : Int) (M4 : fs_M), (0 ≤ a ∧ a ≤ 6) → (mm_G M M4 (fun _ => 0)) → (∀ q, 0 ≤ q → q < a → M4 136 q = 0) → 6 - a < (n54 : Int) → fs_W (d + 10) 262 54 [some (.inr (.ref 124)), some (.inl n), some (.inl v), some (.inl h), some (.inl a)] [] M4 Q := by
            intro n54
            induction n54 with
            | zero =>
              intro a M4 a0 G4 t4 hm54
              exfalso
              omega
            | succ n54 ih54 =>
              intro a M4 a0 G4 t4 hm54
              refine fs_r_icmp (a := a) (y := 6) (L1 := [some (.inr (.ref 124)), some (.inl n), some (.inl v), some (.inl h), some (.inl a)]) (st1 := []) (M1 := M4) (ob := []) rfl rfl trivial (fun (h12 : 6 ≤ a) => ?_) (fun (h12 : ¬ (6 ≤ a)) => ?_)
              · refine fs_r_call (sta := false) (idx := 327) (as := [.inr (.ref 124), .inl n, .inl v]) (rest := []) (L1 := [some (.inr (.ref 124)), some (.inl n), some (.inl v), some (.inl h), some (.inl a)]) (st1 := [.inl v, .inl n, .inr (.ref 124)]) (M1 := M4) (ob := []) rfl rfl rfl trivial rfl rfl (Nat.le_of_ble_eq_true rfl) ⟨Or.inr (Nat.le_of_ble_eq_true rfl), Or.inr fs_ob124⟩ (by decide) ?_
                refine fs_m_ways (hN) (G4) (by omega) (by omega) (by omega) (fun q q0 q1 => t4 q q0 (by omega)) (fun (V1 : fs_M) (q1 : mm_q M V1) (l1 : V1 124 30 = bw_m (M 125) n v ((n + 1) ^ (M 125 1).toNat).toNat) (t1 : ∀ q, 0 ≤ q → q < 6 → V1 137 q = bw_g (M 125 1) (n + 1) (bw_r (M 125) n v ((n + 1) ^ (M 125 1).toNat).toNat) q) => ?_)
                refine fs_r_icmp (a := h) (y := (-1)) (L1 := [some (.inr (.ref 124)), some (.inl n), some (.inl v), some (.inl h), some (.inl a)]) (st1 := []) (M1 := V1) (ob := []) rfl rfl trivial (fun (h13 : ¬ h = (-1)) => ?_) (fun (h13 : ¬ (¬ h = (-1))) => ?_)
                · refine fs_r_nop (L1 := [some (.inr (.ref 124)), some (.inl n), some (.inl v), some (.inl h), some (.inl a)]) (st1 := [.inl (V1 137 h)]) (M1 := V1) (ob := [124 < fs_N ∧ fs_kd 124 = 6, (137 < fs_N ∧ fs_kd 137 = 100) ∧ (0 : Int) ≤ h ∧ h < fs_ln 137]) rfl rfl (fs_oc fs_ob124 (fs_oc (fs_ar137 (by omega) (by omega)) trivial)) ?_
                  refine fs_r_iret (a := (V1 137 h)) (L1 := [some (.inr (.ref 124)), some (.inl n), some (.inl v), some (.inl h), some (.inl a)]) (M1 := V1) (ob := []) rfl rfl trivial (Or.inl rfl) ?_
                  first
                    | (exfalso; omega)
                    | exact fs_qi (by unfold rq_bestAid; rw [if_pos ⟨by assumption, by assumption, by omega⟩, if_neg (by omega), if_pos (by omega), l1]) (hq0 _ q1)
                    | exact fs_qi (by unfold rq_bestAid; rw [if_pos ⟨by assumption, by assumption, by omega⟩, if_neg (by omega), if_neg (by omega), t1 h (by omega) (by omega)]) (hq0 _ q1)
                refine fs_r_goto (L1 := [some (.inr (.ref 124)), some (.inl n), some (.inl v), some (.inl h), some (.inl a)]) (st1 := [.inl (V1 124 30)]) (M1 := V1) (ob := [124 < fs_N ∧ fs_kd 124 = 6]) rfl rfl (fs_oc fs_ob124 trivial) ?_
                refine fs_r_iret (a := (V1 124 30)) (L1 := [some (.inr (.ref 124)), some (.inl n), some (.inl v), some (.inl h), some (.inl a)]) (M1 := V1) (ob := []) rfl rfl trivial (Or.inl rfl) ?_
                first
                  | (exfalso; omega)
                  | exact fs_qi (by unfold rq_bestAid; rw [if_pos ⟨by assumption, by assumption, by omega⟩, if_neg (by omega), if_pos (by omega), l1]) (hq0 _ q1)
                  | exact fs_qi (by unfold rq_bestAid; rw [if_pos ⟨by assumption, by assumption, by omega⟩, if_neg (by omega), if_neg (by omega), t1 h (by omega) (by omega)]) (hq0 _ q1)
              refine fs_r_goto (L1 := [some (.inr (.ref 124)), some (.inl n), some (.inl v), some (.inl h), some (.inl (a + 1))]) (st1 := []) (M1 := (fs_up M4 136 a 0)) (ob := [124 < fs_N ∧ fs_kd 124 = 6, (136 < fs_N ∧ fs_kd 136 = 100) ∧ (0 : Int) ≤ a ∧ a < fs_ln 136, fs_rg (a + 1)]) rfl rfl (fs_oc fs_ob124 (fs_oc (fs_ar136 (by omega) (by omega)) (fs_oc ⟨by omega, by omega⟩ trivial))) ?_
              exact ih54 ((a + 1)) (fs_up M4 136 a 0) (by omega) (G4.u136) (fun q q0 q1 => by rw [fs_up_at]; split; rfl; exact t4 q q0 (by omega)) (by omega)
          exact loop54 (((6 - (0)) : Int) + 1).toNat (0) P1 (by omega) (mm_G.P pp) (fun q q0 q1 => by omega) (by omega)
        refine fs_r_iret (a := (-2)) (L1 := [some (.inr (.ref 124)), some (.inl n), some (.inl v), some (.inl h), none]) (M1 := M) (ob := []) rfl rfl trivial (Or.inl rfl) ?_
        exact fs_qi (by unfold rq_bestAid; rw [if_pos ⟨by assumption, by assumption, by first | exact Or.inl (by assumption) | exact Or.inr (by assumption)⟩, if_pos (by omega)]) (hq0 _ mm_q.rf)
      refine fs_r_if (a := 0) (L1 := [some (.inr (.ref 124)), some (.inl n), some (.inl v), some (.inl h), none]) (st1 := []) (M1 := M) (ob := []) rfl rfl trivial (fun h => absurd h (by decide : ¬ (¬ (0 : Int) = 0))) (fun _ => ?_)
      refine fs_r_iret (a := (-1)) (L1 := [some (.inr (.ref 124)), some (.inl n), some (.inl v), some (.inl h), none]) (M1 := M) (ob := []) rfl rfl trivial (Or.inl rfl) ?_
      exact fs_qi (by unfold rq_bestAid; rw [if_neg (fun z => by first | exact absurd z.1 (by assumption) | exact absurd z.2.1 (by assumption) | (obtain ⟨-, -, z3⟩ := z; omega))]) (hq0 _ mm_q.rf)
    refine fs_r_if (a := 0) (L1 := [some (.inr (.ref 124)), some (.inl n), some (.inl v), some (.inl h), none]) (st1 := []) (M1 := M) (ob := []) rfl rfl trivial (fun _ => ?_) (fun h => absurd (by decide : (0 : Int) = 0) h)
    refine fs_r_iret (a := (-1)) (L1 := [some (.inr (.ref 124)), some (.inl n), some (.inl v), some (.inl h), none]) (M1 := M) (ob := []) rfl rfl trivial (Or.inl rfl) ?_
    exact fs_qi (by unfold rq_bestAid; rw [if_neg (fun z => by first | exact absurd z.1 (by assumption) | exact absurd z.2.1 (by assumption) | (obtain ⟨-, -, z3⟩ := z; omega))]) (hq0 _ mm_q.rf)
  refine fs_r_if (a := 0) (L1 := [some (.inr (.ref 124)), some (.inl n), some (.inl v), some (.inl h), none]) (st1 := []) (M1 := M) (ob := []) rfl rfl trivial (fun _ => ?_) (fun h => absurd (by decide : (0 : Int) = 0) h)
  refine fs_r_iret (a := (-1)) (L1 := [some (.inr (.ref 124)), some (.inl n), some (.inl v), some (.inl h), none]) (M1 := M) (ob := []) rfl rfl trivial (Or.inl rfl) ?_
  exact fs_qi (by unfold rq_bestAid; rw [if_neg (fun z => by first | exact absurd z.1 (by assumption) | exact absurd z.2.1 (by assumption) | (obtain ⟨-, -, z3⟩ := z; omega))]) (hq0 _ mm_q.rf)
