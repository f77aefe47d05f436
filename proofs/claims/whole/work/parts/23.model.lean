def mm_Z (M : fs_M) : Prop := ∀ a, M 125 0 ≤ a → a < 4 → M 129 a = 0
def mm_f2 (M M2 : fs_M) : Prop := (∀ r, r ≠ 124 → r ≠ 129 → r ≠ 130 → M2 r = M r) ∧ ∀ i, i ≠ 15 → i ≠ 16 → M2 124 i = M 124 i
theorem mm_f2.rf {M : fs_M} : mm_f2 M M := ⟨fun _ _ _ _ => rfl, fun _ _ _ => rfl⟩
theorem mm_f2.tr {A B C : fs_M} (h : mm_f2 A B) (k : mm_f2 B C) : mm_f2 A C := ⟨fun r a b c => (k.1 r a b c).trans (h.1 r a b c), fun i a b => (k.2 i a b).trans (h.2 i a b)⟩
theorem mm_f2.of1 {M M2 : fs_M} (h : mm_f1 M M2) : mm_f2 M M2 := ⟨fun r a _ c => h.1 r a c, fun i _ b => h.2 i b⟩
theorem mm_f2.u129 {M M2 : fs_M} {i v : Int} (h : mm_f2 M M2) : mm_f2 M (fs_up M2 129 i v) := ⟨fun r a b c => by rw [fs_up_other b]; exact h.1 r a b c, fun i a b => by rw [fs_up_other (by decide)]; exact h.2 i a b⟩
theorem mm_f2.u15 {M M2 : fs_M} {v : Int} (h : mm_f2 M M2) : mm_f2 M (fs_up M2 124 15 v) := ⟨fun r a b c => by rw [fs_up_other a]; exact h.1 r a b c, fun i a b => by rw [fs_up_at, if_neg a]; exact h.2 i a b⟩
theorem mm_f2.E {M M2 : fs_M} (h : mm_f2 M M2) : mm_E M2 = mm_E M := by
  unfold mm_E
  rw [h.1 125 (by decide) (by decide) (by decide), h.1 131 (by decide) (by decide) (by decide), h.2 25 (by decide) (by decide), h.2 24 (by decide) (by decide), h.2 19 (by decide) (by decide), h.2 21 (by decide) (by decide), h.2 20 (by decide) (by decide), h.2 22 (by decide) (by decide), h.2 23 (by decide) (by decide)]
theorem mm_f2.I {M M2 : fs_M} (h : mm_f2 M M2) (k : mm_I M) : mm_I M2 := by
  unfold mm_I at *
  rw [h.1 125 (by decide) (by decide) (by decide), h.1 131 (by decide) (by decide) (by decide), h.2 25 (by decide) (by decide), h.2 24 (by decide) (by decide), h.2 21 (by decide) (by decide), h.2 20 (by decide) (by decide), h.2 23 (by decide) (by decide)]
  exact k
theorem mm_f2.N {M M2 : fs_M} (h : mm_f2 M M2) : M2 125 = M 125 := h.1 125 (by decide) (by decide) (by decide)
theorem mm_hold {M : fs_M} {h a : Int} (hI : mm_I M) (hh : 0 ≤ h ∧ h < 6) (ha : 0 ≤ a ∧ a < 4) : 0 ≤ mm_E M 10 (4 * h + a) ∧ mm_E M 10 (4 * h + a) ≤ 60 := by
  have := hI.1.2.2.2.2.1 h a hh.1 hh.2 ha.1 ha.2
  show 0 ≤ M 125 (40 + (4 * h + a)) ∧ M 125 (40 + (4 * h + a)) ≤ 60
  rw [show (40 : Int) + (4 * h + a) = 40 + 4 * h + a by omega]
  exact this
theorem mm_part_b {M : fs_M} {h a due : Int} (hI : mm_I M) (hh : 0 ≤ h ∧ h < 6) (ha : 0 ≤ a ∧ a < 4) : 0 ≤ ec_part (mm_E M) h due a ∧ ec_part (mm_E M) h due a ≤ 60 := by
  have := mm_hold hI hh ha
  unfold ec_part ec_left
  omega
theorem mm_due_b {M : fs_M} {h w : Int} (hI : mm_I M) (hh : 0 ≤ h ∧ h < M 125 1) : 0 ≤ ec_due (mm_E M) h w ∧ ec_due (mm_E M) h w ≤ 240 := by
  have hN := hI.1
  have w3 := mm_pieces_b hN (h := h) ⟨hh.1, by have := hN.2.1.2; omega⟩
  have w1 := hN.2.2.2.2.2.2.2.2 h hh.1 hh.2
  unfold ec_due
  show 0 ≤ (if w < 0 then mm_pieces (M 125) h else if mm_E M 9 (5 * h + 2) - w ≤ 0 then min (mm_pieces (M 125) h) 0 else min (mm_pieces (M 125) h) ((mm_E M 9 (5 * h + 2) - w + M 125 (10 + (5 * h + 3)) - 1) / M 125 (10 + (5 * h + 3)))) ∧ (if w < 0 then mm_pieces (M 125) h else if mm_E M 9 (5 * h + 2) - w ≤ 0 then min (mm_pieces (M 125) h) 0 else min (mm_pieces (M 125) h) ((mm_E M 9 (5 * h + 2) - w + M 125 (10 + (5 * h + 3)) - 1) / M 125 (10 + (5 * h + 3)))) ≤ 240
  rw [show (10 : Int) + (5 * h + 3) = 10 + 5 * h + 3 by omega]
  by_cases a : w < 0
  · rw [if_pos a]
    exact w3
  · rw [if_neg a]
    by_cases b : mm_E M 9 (5 * h + 2) - w ≤ 0
    · rw [if_pos b]
      omega
    · rw [if_neg b]
      have : 0 ≤ (mm_E M 9 (5 * h + 2) - w + M 125 (10 + 5 * h + 3) - 1) / M 125 (10 + 5 * h + 3) := Int.ediv_nonneg (by omega) (by omega)
      omega
theorem mm_ps_b {M : fs_M} {a : Int} {n : Nat} {S : Int → Int} (hI : mm_I M) (ha : 0 ≤ a ∧ a < 4) (hn : (n : Int) ≤ 6) : 0 ≤ fs_sum n (fun h => ec_pt (mm_E M) S a h) ∧ fs_sum n (fun h => ec_pt (mm_E M) S a h) ≤ 60 * n := fs_sum_b (fun h h0 h1 => mm_part_b hI ⟨h0, by omega⟩ ha)
theorem mm_capE_b {M : fs_M} {a : Int} (hI : mm_I M) : 0 ≤ mm_E M 3 a ∧ mm_E M 3 a ≤ 360 := by
  have := mm_cap_b (a := a) hI.1
  obtain ⟨-, -, -, -, -, h, -⟩ := hI
  show 0 ≤ (if _ then M 124 20 else mm_cap (M 125) a) ∧ (if _ then M 124 20 else mm_cap (M 125) a) ≤ 360
  split <;> omega
theorem mm_ns_b {M : fs_M} {a : Int} {S : Int → Int} (hI : mm_I M) : 0 ≤ ec_ns (mm_E M) S a ∧ ec_ns (mm_E M) S a ≤ 360 := by
  unfold ec_ns
  split
  · next h =>
    have hA : a < 4 := by have h1 : a < M 125 0 := h.2; have := hI.1.1.2; omega
    have hH : ((M 125 1).toNat : Int) ≤ 6 := by have := hI.1.2.1; omega
    have h1 := mm_ps_b (a := a) (n := (M 125 1).toNat) (S := S) hI ⟨h.1, hA⟩ hH
    have h2 := mm_capE_b (a := a) hI
    show 0 ≤ min (fs_sum (M 125 1).toNat _) _ ∧ min (fs_sum (M 125 1).toNat _) _ ≤ 360
    omega
  · omega
theorem mm_nf_b {M : fs_M} {n : Nat} {S : Int → Int} (hI : mm_I M) (hn : n ≤ 6) : 0 ≤ ec_nf (mm_E M) S n ∧ ec_nf (mm_E M) S n < 64 := ec_nf_b (by obtain ⟨-, -, -, -, -, -, h⟩ := hI; exact h) n hn
/-- a state that is laid is the next one -/
theorem mm_goes_end {M M7 : fs_M} (hI : mm_I M) (f : mm_f2 M M7) (e : M7 124 16 = ec_nf (mm_E M) (mm_st M) (M 125 1).toNat) (z : ∀ q, 0 ≤ q → q < 4 → M7 129 q = ec_ns (mm_E M) (mm_st M) q) :
    mm_f2 M (fs_up M7 124 15 (M7 124 16)) ∧ mm_st (fs_up M7 124 15 (M7 124 16)) = ec_next (mm_E M) (mm_st M) ∧ mm_J (fs_up M7 124 15 (M7 124 16)) ∧ mm_Z (fs_up M7 124 15 (M7 124 16)) := by
  have hH : (M 125 1).toNat ≤ 6 := by have := hI.1.2.1; omega
  refine ⟨f.u15, ?_, ⟨?_, fun a h0 h1 => ?_⟩, fun a h0 h1 => ?_⟩
  · funext i
    by_cases h4 : i = 4
    · subst h4
      rw [mm_st_4, fs_up_at, if_pos rfl, e]
      rfl
    · unfold ec_next
      rw [if_neg h4]
      by_cases h5 : 0 ≤ i ∧ i < 4
      · rw [mm_st_at h5, fs_up_other (by decide), z i h5.1 h5.2]
      · unfold mm_st ec_ns
        have : ¬ (0 ≤ i ∧ i < mm_E M 0 0) := by
          have h6 : mm_E M 0 0 = M 125 0 := rfl
          have := hI.1.1.2
          omega
        rw [if_neg h4, if_neg h5, if_neg this]
  · rw [fs_up_at, if_pos rfl, e]
    exact mm_nf_b hI hH
  · rw [fs_up_other (by decide), z a h0 h1]
    exact mm_ns_b hI
  · rw [fs_up_other (by decide), f.N] at h0
    rw [fs_up_other (by decide), z a (by have := hI.1.1.1; omega) h1]
    unfold ec_ns
    exact if_neg (fun q => by have h6 : mm_E M 0 0 = M 125 0 := rfl; omega)
theorem mm_same {M : fs_M} (hI : mm_I M) (hZ : mm_Z M) : ec_next (mm_E M) (mm_st M) = mm_st M ↔ (ec_nf (mm_E M) (mm_st M) (M 125 1).toNat = M 124 15 ∧ ∀ q, 0 ≤ q → q < M 125 0 → ec_ns (mm_E M) (mm_st M) q = M 129 q) := by
  have hA := hI.1.1
  refine ⟨fun h => ⟨?_, fun q h0 h1 => ?_⟩, fun h => ?_⟩
  · have := congrFun h 4
    rw [mm_st_4] at this
    exact this
  · have := congrFun h q
    unfold ec_next at this
    rw [if_neg (by omega), mm_st_at ⟨h0, by omega⟩] at this
    exact this
  · funext i
    unfold ec_next
    by_cases h4 : i = 4
    · subst h4
      rw [if_pos rfl, mm_st_4]
      exact h.1
    · rw [if_neg h4]
      by_cases h5 : 0 ≤ i ∧ i < M 125 0
      · rw [h.2 i h5.1 h5.2, mm_st_at ⟨h5.1, by omega⟩]
      · have h6 : ec_ns (mm_E M) (mm_st M) i = 0 := by
          unfold ec_ns
          exact if_neg h5
        rw [h6]
        unfold mm_st
        rw [if_neg h4]
        split
        · next h7 => exact (hZ i (by omega) h7.2).symm
        · rfl
theorem fs_m_goesOn {d : Nat} {M : fs_M} {Q : Option fs_V → fs_M → Prop}   (hI : mm_I M) (hJ : mm_J M) (hZ : mm_Z M) (hq0 : ∀ (M2 : fs_M), (mm_f2 M M2) → (mm_st M2 = ec_next (mm_E M) (mm_st M)) → (mm_J M2) → (mm_Z M2) → (¬ mm_st M2 = mm_st M) → Q (some (.inl 1)) M2) (hq1 : ∀ (M2 : fs_M), (mm_f2 M M2) → (mm_st M2 = ec_next (mm_E M) (mm_st M)) → (mm_J M2) → (mm_Z M2) → (mm_st M2 = mm_st M) → Q (some (.inl 0)) M2) : fs_W (d + 5) 196 0 [some (.inr (.ref 124)), none, none, none] [] M Q := by
  obtain ⟨hN, hco, ⟨hp0, hp1⟩, ⟨hx0, hx1⟩, ⟨hb0, hb1⟩, ⟨hc0, hc1⟩, ⟨hfo0, hfo1⟩⟩ := id hI
  obtain ⟨⟨hA0, hA1⟩, ⟨hH0, hH1⟩, hcv, hfc, hhd, hln, hsh, hit, hst⟩ := id hN
  obtain ⟨⟨hf0, hf1⟩, hsd⟩ := id hJ
  refine fs_r_nop (L1 := [some (.inr (.ref 124)), some (.inl 0), none, none]) (st1 := []) (M1 := (fs_up M 124 16 (M 124 25))) (ob := [124 < fs_N ∧ fs_kd 124 = 6, 124 < fs_N ∧ fs_kd 124 = 6, 1 < 4]) rfl rfl (fs_oc fs_ob124 (fs_oc fs_ob124 (fs_oc (by decide) trivial))) ?_
  have loop10 : ∀ (n10 : Nat) (a : Int) (zl2 : Option fs_V) (zl3 : Option fs_V) (M2 : fs_M), (0 ≤ a ∧ a ≤ 4) → (mm_f1 M M2) → (M2 124 16 = M 124 25) → (∀ q, 0 ≤ q → q < a → M2 130 q = 0) → 4 - a < (n10 : Int) → fs_W (d + 5) 196 10 [some (.inr (.ref 124)), some (.inl a), zl2, zl3] [] M2 Q := by
    intro n10
    induction n10 with
    | zero =>
      intro a zl2 zl3 M2 i0 f0 e0 z0 hm10
      exfalso
      omega
    | succ n10 ih10 =>
      intro a zl2 zl3 M2 i0 f0 e0 z0 hm10
      refine fs_r_icmp (a := a) (y := 4) (L1 := [some (.inr (.ref 124)), some (.inl a), zl2, zl3]) (st1 := []) (M1 := M2) (ob := []) rfl rfl trivial (fun (h1 : 4 ≤ a) => ?_) (fun (h1 : ¬ (4 ≤ a)) => ?_)
      · refine fs_r_nop (L1 := [some (.inr (.ref 124)), some (.inl 0), zl2, zl3]) (st1 := []) (M1 := M2) (ob := [1 < 4]) rfl rfl (fs_oc (by decide) trivial) ?_
        have loop30 : ∀ (n30 : Nat) (h : Int) (zl2 : Option fs_V) (zl3 : Option fs_V) (M3 : fs_M), (0 ≤ h ∧ h ≤ M 125 1) → (mm_f1 M M3) → (M3 124 16 = ec_nf (mm_E M) (mm_st M) h.toNat) → (∀ q, 0 ≤ q → q < 4 → M3 130 q = if q < M 125 0 then fs_sum h.toNat (fun x => ec_pt (mm_E M) (mm_st M) q x) else 0) → M 125 1 - h < (n30 : Int) → fs_W (d + 5) 196 30 [some (.inr (.ref 124)), some (.inl h), zl2, zl3] [] M3 Q := by
          intro n30
          induction n30 with
          | zero =>
            intro h zl2 zl3 M3 i1 f1 e1 z1 hm30
            exfalso
            omega
          | succ n30 ih30 =>
            intro h zl2 zl3 M3 i1 f1 e1 z1 hm30
            have nf10 := congrFun f1.N 0
            have nf11 := congrFun f1.N 1
            have xf1 := f1.2 15 (by decide)
            refine fs_r_icmp (a := h) (y := (M3 125 1)) (L1 := [some (.inr (.ref 124)), some (.inl h), zl2, zl3]) (st1 := []) (M1 := M3) (ob := [124 < fs_N ∧ fs_kd 124 = 6, (125 < fs_N ∧ fs_kd 125 = 100) ∧ (0 : Int) ≤ 1 ∧ 1 < fs_ln 125]) rfl rfl (fs_oc fs_ob124 (fs_oc (fs_ar125 (by omega) (by omega)) trivial)) (fun (h2 : (M3 125 1) ≤ h) => ?_) (fun (h2 : ¬ ((M3 125 1) ≤ h)) => ?_)
            · have join126 : ∀ (x : Int), (x = if M3 124 16 = M3 124 15 then 0 else 1) → fs_W (d + 5) 196 126 [some (.inr (.ref 124)), some (.inl h), zl2, zl3] [.inl x] M3 Q := by
                intro x k4
                refine fs_r_nop (L1 := [some (.inr (.ref 124)), some (.inl x), some (.inl 0), zl3]) (st1 := []) (M1 := M3) (ob := [1 < 4, 2 < 4]) rfl rfl (fs_oc (by decide) (fs_oc (by decide) trivial)) ?_
                have loop129 : ∀ (n129 : Nat) (is : Int) (a : Int) (zl3 : Option fs_V) (M6 : fs_M), (0 ≤ a ∧ a ≤ M 125 0) → (mm_f1 M M6) → (M6 124 16 = ec_nf (mm_E M) (mm_st M) (M 125 1).toNat) → (∀ q, 0 ≤ q → q < 4 → M6 130 q = if q < a then ec_ns (mm_E M) (mm_st M) q else if q < M 125 0 then fs_sum (M 125 1).toNat (fun x => ec_pt (mm_E M) (mm_st M) q x) else 0) → ((is = 0 ∨ is = 1) ∧ (is = 0 ↔ (ec_nf (mm_E M) (mm_st M) (M 125 1).toNat = M 124 15 ∧ ∀ q, 0 ≤ q → q < a → ec_ns (mm_E M) (mm_st M) q = M 129 q))) → M 125 0 - a < (n129 : Int) → fs_W (d + 5) 196 129 [some (.inr (.ref 124)), some (.inl is), some (.inl a), zl3] [] M6 Q := by
                  intro n129
                  induction n129 with
                  | zero =>
                    intro is a zl3 M6 i3 f3 e3 z3 b3 hm129
                    exfalso
                    omega
                  | succ n129 ih129 =>
                    intro is a zl3 M6 i3 f3 e3 z3 b3 hm129
                    have nf30 := congrFun f3.N 0
                    have nf31 := congrFun f3.N 1
                    have xf3 := f3.2 15 (by decide)
                    have y3 := f3.1 129 (by decide) (by decide)
                    refine fs_r_icmp (a := a) (y := (M6 125 0)) (L1 := [some (.inr (.ref 124)), some (.inl is), some (.inl a), zl3]) (st1 := []) (M1 := M6) (ob := [124 < fs_N ∧ fs_kd 124 = 6, (125 < fs_N ∧ fs_kd 125 = 100) ∧ (0 : Int) ≤ 0 ∧ 0 < fs_ln 125]) rfl rfl (fs_oc fs_ob124 (fs_oc (fs_ar125 (by omega) (by omega)) trivial)) (fun (h3 : (M6 125 0) ≤ a) => ?_) (fun (h3 : ¬ ((M6 125 0) ≤ a)) => ?_)
                    · refine fs_r_nop (L1 := [some (.inr (.ref 124)), some (.inl is), some (.inl 0), zl3]) (st1 := []) (M1 := M6) (ob := [2 < 4]) rfl rfl (fs_oc (by decide) trivial) ?_
                      have loop206 : ∀ (n206 : Nat) (c : Int) (zl3 : Option fs_V) (M7 : fs_M), (0 ≤ c ∧ c ≤ 4) → (mm_f2 M M7) → (M7 124 16 = ec_nf (mm_E M) (mm_st M) (M 125 1).toNat) → (∀ q, 0 ≤ q → q < 4 → M7 130 q = ec_ns (mm_E M) (mm_st M) q) → (∀ q, 0 ≤ q → q < c → M7 129 q = ec_ns (mm_E M) (mm_st M) q) → 4 - c < (n206 : Int) → fs_W (d + 5) 196 206 [some (.inr (.ref 124)), some (.inl is), some (.inl c), zl3] [] M7 Q := by
                        intro n206
                        induction n206 with
                        | zero =>
                          intro c zl3 M7 i4 f4 e4 z4 z5 hm206
                          exfalso
                          omega
                        | succ n206 ih206 =>
                          intro c zl3 M7 i4 f4 e4 z4 z5 hm206
                          refine fs_r_icmp (a := c) (y := 4) (L1 := [some (.inr (.ref 124)), some (.inl is), some (.inl c), zl3]) (st1 := []) (M1 := M7) (ob := []) rfl rfl trivial (fun (h4 : 4 ≤ c) => ?_) (fun (h4 : ¬ (4 ≤ c)) => ?_)
                          · refine fs_r_iret (a := is) (L1 := [some (.inr (.ref 124)), some (.inl is), some (.inl c), zl3]) (M1 := (fs_up M7 124 15 (M7 124 16))) (ob := [124 < fs_N ∧ fs_kd 124 = 6, 124 < fs_N ∧ fs_kd 124 = 6]) rfl rfl (fs_oc fs_ob124 (fs_oc fs_ob124 trivial)) (Or.inr (b3.1)) ?_
                            obtain ⟨r1, r2, r3, r4⟩ := mm_goes_end hI f4 e4 (fun q q1 q2 => z5 q q1 (by omega))
                            have sm := mm_same hI hZ
                            have aA : a = M 125 0 := by omega
                            rw [aA] at b3
                            rcases b3.1 with z | z
                            · rw [z]
                              exact hq1 _ r1 r2 r3 r4 (by rw [r2]; exact sm.mpr (b3.2.mp z))
                            · rw [z]
                              exact hq0 _ r1 r2 r3 r4 (by rw [r2]; intro w; have := b3.2.mpr (sm.mp w); omega)
                          refine fs_r_goto (L1 := [some (.inr (.ref 124)), some (.inl is), some (.inl (c + 1)), zl3]) (st1 := []) (M1 := (fs_up M7 129 c (M7 130 c))) (ob := [124 < fs_N ∧ fs_kd 124 = 6, 124 < fs_N ∧ fs_kd 124 = 6, (130 < fs_N ∧ fs_kd 130 = 100) ∧ (0 : Int) ≤ c ∧ c < fs_ln 130, (129 < fs_N ∧ fs_kd 129 = 100) ∧ (0 : Int) ≤ c ∧ c < fs_ln 129, fs_rg (c + 1)]) rfl (fs_exA 6 (o1 := [124 < fs_N ∧ fs_kd 124 = 6, 124 < fs_N ∧ fs_kd 124 = 6]) (L1 := [some (.inr (.ref 124)), some (.inl is), some (.inl c), zl3]) (st1 := [.inl c, .inr (.ref 130), .inl c, .inr (.ref 129)]) (M1 := M7) (o2 := [(130 < fs_N ∧ fs_kd 130 = 100) ∧ (0 : Int) ≤ c ∧ c < fs_ln 130, (129 < fs_N ∧ fs_kd 129 = 100) ∧ (0 : Int) ≤ c ∧ c < fs_ln 129, fs_rg (c + 1)]) rfl rfl) (fs_oc fs_ob124 (fs_oc fs_ob124 (fs_oc (fs_ar130 (by omega) (by omega)) (fs_oc (fs_ar129 (by omega) (by omega)) (fs_oc ⟨by omega, by omega⟩ trivial))))) ?_
                          exact ih206 ((c + 1)) (zl3) (fs_up M7 129 c (M7 130 c)) (by omega) (f4.u129) (by rw [fs_up_other (by decide)]; exact e4) (fun q q1 q2 => by rw [fs_up_other (by decide)]; exact z4 q q1 q2) (fun q q1 q2 => by rw [fs_up_at]; split; (rename_i z; rw [z]; exact z4 c (by omega) (by omega)); exact z5 q q1 (by omega)) (by omega)
                      exact loop206 (((4 - (0)) : Int) + 1).toNat (0) (zl3) M6 (by omega) (mm_f2.of1 f3) (e3) (fun q q1 q2 => by rw [z3 q q1 q2]; split; rfl; (rw [if_neg (by omega)]; unfold ec_ns; rw [if_neg (fun w => by have : q < M 125 0 := w.2; omega)])) (fun q q1 q2 => by omega) (by omega)
                    refine fs_r_call (sta := false) (idx := 202) (as := [.inr (.ref 124), .inl a]) (rest := [.inl (M6 130 a), .inl a, .inr (.ref 130)]) (L1 := [some (.inr (.ref 124)), some (.inl is), some (.inl a), zl3]) (st1 := [.inl a, .inr (.ref 124), .inl (M6 130 a), .inl a, .inr (.ref 130)]) (M1 := M6) (ob := [124 < fs_N ∧ fs_kd 124 = 6, 124 < fs_N ∧ fs_kd 124 = 6, (130 < fs_N ∧ fs_kd 130 = 100) ∧ (0 : Int) ≤ a ∧ a < fs_ln 130]) rfl rfl (fs_exA 6 (o1 := [124 < fs_N ∧ fs_kd 124 = 6, 124 < fs_N ∧ fs_kd 124 = 6]) (L1 := [some (.inr (.ref 124)), some (.inl is), some (.inl a), zl3]) (st1 := [.inl a, .inr (.ref 130), .inl a, .inr (.ref 130)]) (M1 := M6) (o2 := [(130 < fs_N ∧ fs_kd 130 = 100) ∧ (0 : Int) ≤ a ∧ a < fs_ln 130]) rfl rfl) (fs_oc fs_ob124 (fs_oc fs_ob124 (fs_oc (fs_ar130 (by omega) (by omega)) trivial))) rfl rfl (Nat.le_of_ble_eq_true rfl) ⟨Or.inr (Nat.le_of_ble_eq_true rfl), Or.inr fs_ob124⟩ (by decide) ?_
                    refine fs_m_capOf (f3.I hI) ?_
                    have join172 : ∀ (x : Int), (x = min (M6 130 a) (mm_E M6 3 a)) → fs_W (d + 5) 196 172 [some (.inr (.ref 124)), some (.inl is), some (.inl a), zl3] [.inl x, .inl a, .inr (.ref 130)] M6 Q := by
                      intro x k1
                      have k5 : x = ec_ns (mm_E M) (mm_st M) a := by
                        rw [k1, z3 a (by omega) (by omega), if_neg (by omega), if_pos (by omega), f3.E]
                        unfold ec_ns
                        rw [if_pos ⟨by omega, by show a < M 125 0; omega⟩]
                        rfl
                      have join197 : ∀ (y : Int), (y = if is = 0 ∧ x = M6 129 a then 0 else 1) → fs_W (d + 5) 196 197 [some (.inr (.ref 124)), some (.inl is), some (.inl a), zl3] [.inl y] (fs_up M6 130 a x) Q := by
                        intro y k6
                        refine fs_r_goto (L1 := [some (.inr (.ref 124)), some (.inl y), some (.inl (a + 1)), zl3]) (st1 := []) (M1 := (fs_up M6 130 a x)) (ob := [1 < 4, fs_rg (a + 1)]) rfl rfl (fs_oc (by decide) (fs_oc ⟨by omega, by omega⟩ trivial)) ?_
                        exact ih129 (y) ((a + 1)) (zl3) (fs_up M6 130 a x) (by omega) (f3.u130) (by rw [fs_up_other (by decide)]; exact e3) (fun q q1 q2 => by rw [fs_up_at]; split; (rename_i z; rw [if_pos (by omega), z, ← k5]); (rw [z3 q q1 q2]; split <;> (split <;> first | rfl | omega))) (by
                              rw [k6]
                              refine ⟨by split <;> simp, ?_⟩
                              split
                              · next z =>
                                have b4 := b3.2.mp z.1
                                refine ⟨fun _ => ⟨b4.1, fun q q1 q2 => ?_⟩, fun _ => rfl⟩
                                rcases (show q < a ∨ q = a by omega) with q3 | q3
                                · exact b4.2 q q1 q3
                                · rw [q3, ← k5, z.2, y3]
                              · next z =>
                                refine ⟨fun w => by omega, fun w => absurd ⟨b3.2.mpr ⟨w.1, fun q q1 q2 => w.2 q q1 (by omega)⟩, ?_⟩ z⟩
                                rw [k5, y3]
                                exact w.2 a (by omega) (by omega)) (by omega)
                      refine fs_r_if (a := is) (L1 := [some (.inr (.ref 124)), some (.inl is), some (.inl a), zl3]) (st1 := []) (M1 := (fs_up M6 130 a x)) (ob := [(130 < fs_N ∧ fs_kd 130 = 100) ∧ (0 : Int) ≤ a ∧ a < fs_ln 130]) rfl rfl (fs_oc (fs_ar130 (by omega) (by omega)) trivial) (fun (h5 : ¬ is = 0) => ?_) (fun (h5 : ¬ (¬ is = 0)) => ?_)
                      · refine fs_r_goto (L1 := [some (.inr (.ref 124)), some (.inl is), some (.inl a), zl3]) (st1 := [.inl 1]) (M1 := (fs_up M6 130 a x)) (ob := []) rfl rfl trivial ?_
                        exact join197 (1) (by have u : fs_up M6 130 a x 130 a = x := by { rw [fs_up_at, if_pos rfl] }; first | (rw [if_pos (by omega)]) | (rw [if_neg (by omega)]))
                      refine fs_r_icmp (a := ((fs_up M6 130 a x) 130 a)) (y := (M6 129 a)) (L1 := [some (.inr (.ref 124)), some (.inl is), some (.inl a), zl3]) (st1 := []) (M1 := (fs_up M6 130 a x)) (ob := [124 < fs_N ∧ fs_kd 124 = 6, (130 < fs_N ∧ fs_kd 130 = 100) ∧ (0 : Int) ≤ a ∧ a < fs_ln 130, 124 < fs_N ∧ fs_kd 124 = 6, (129 < fs_N ∧ fs_kd 129 = 100) ∧ (0 : Int) ≤ a ∧ a < fs_ln 129]) rfl (fs_exA 6 (o1 := [124 < fs_N ∧ fs_kd 124 = 6, (130 < fs_N ∧ fs_kd 130 = 100) ∧ (0 : Int) ≤ a ∧ a < fs_ln 130, 124 < fs_N ∧ fs_kd 124 = 6]) (L1 := [some (.inr (.ref 124)), some (.inl is), some (.inl a), zl3]) (st1 := [.inr (.ref 129), .inl ((fs_up M6 130 a x) 130 a)]) (M1 := (fs_up M6 130 a x)) (o2 := [(129 < fs_N ∧ fs_kd 129 = 100) ∧ (0 : Int) ≤ a ∧ a < fs_ln 129]) rfl rfl) (fs_oc fs_ob124 (fs_oc (fs_ar130 (by omega) (by omega)) (fs_oc fs_ob124 (fs_oc (fs_ar129 (by omega) (by omega)) trivial)))) (fun (h6 : ((fs_up M6 130 a x) 130 a) = (M6 129 a)) => ?_) (fun (h6 : ¬ (((fs_up M6 130 a x) 130 a) = (M6 129 a))) => ?_)
                      · refine fs_r_nop (L1 := [some (.inr (.ref 124)), some (.inl is), some (.inl a), zl3]) (st1 := [.inl 0]) (M1 := (fs_up M6 130 a x)) (ob := []) rfl rfl trivial ?_
                        exact join197 (0) (by have u : fs_up M6 130 a x 130 a = x := by { rw [fs_up_at, if_pos rfl] }; first | (rw [if_pos (by omega)]) | (rw [if_neg (by omega)]))
                      refine fs_r_goto (L1 := [some (.inr (.ref 124)), some (.inl is), some (.inl a), zl3]) (st1 := [.inl 1]) (M1 := (fs_up M6 130 a x)) (ob := []) rfl rfl trivial ?_
                      exact join197 (1) (by have u : fs_up M6 130 a x 130 a = x := by { rw [fs_up_at, if_pos rfl] }; first | (rw [if_pos (by omega)]) | (rw [if_neg (by omega)]))
                    refine fs_r_icmp (a := (M6 130 a)) (y := (mm_E M6 3 a)) (L1 := [some (.inr (.ref 124)), some (.inl is), some (.inl a), zl3]) (st1 := [.inl a, .inr (.ref 130)]) (M1 := M6) (ob := []) rfl rfl trivial (fun (h7 : (mm_E M6 3 a) ≤ (M6 130 a)) => ?_) (fun (h7 : ¬ ((mm_E M6 3 a) ≤ (M6 130 a))) => ?_)
                    · refine fs_r_call (sta := false) (idx := 202) (as := [.inr (.ref 124), .inl a]) (rest := [.inl a, .inr (.ref 130)]) (L1 := [some (.inr (.ref 124)), some (.inl is), some (.inl a), zl3]) (st1 := [.inl a, .inr (.ref 124), .inl a, .inr (.ref 130)]) (M1 := M6) (ob := []) rfl rfl rfl trivial rfl rfl (Nat.le_of_ble_eq_true rfl) ⟨Or.inr (Nat.le_of_ble_eq_true rfl), Or.inr fs_ob124⟩ (by decide) ?_
                      refine fs_m_capOf (f3.I hI) ?_
                      exact join172 ((mm_E M6 3 a)) (by omega)
                    refine fs_r_goto (L1 := [some (.inr (.ref 124)), some (.inl is), some (.inl a), zl3]) (st1 := [.inl (M6 130 a), .inl a, .inr (.ref 130)]) (M1 := M6) (ob := [124 < fs_N ∧ fs_kd 124 = 6, (130 < fs_N ∧ fs_kd 130 = 100) ∧ (0 : Int) ≤ a ∧ a < fs_ln 130]) rfl rfl (fs_oc fs_ob124 (fs_oc (fs_ar130 (by omega) (by omega)) trivial)) ?_
                    exact join172 ((M6 130 a)) (by omega)
                exact loop129 (((M 125 0 - (0)) : Int) + 1).toNat (x) (0) (zl3) M3 (by omega) (f1) (by rw [e1, show h = M 125 1 by omega]) (fun q q1 q2 => by rw [z1 q q1 q2, if_neg (by omega : ¬ q < 0), show h = M 125 1 by omega]) (by rw [k4, e1, xf1, show h = M 125 1 by omega]; refine ⟨by split <;> simp, ?_⟩; split; (rename_i z; exact ⟨fun _ => ⟨z, fun q q1 q2 => by omega⟩, fun _ => rfl⟩); (rename_i z; exact ⟨fun w => by omega, fun w => absurd w.1 z⟩)) (by omega)
              refine fs_r_icmp (a := (M3 124 16)) (y := (M3 124 15)) (L1 := [some (.inr (.ref 124)), some (.inl h), zl2, zl3]) (st1 := []) (M1 := M3) (ob := [124 < fs_N ∧ fs_kd 124 = 6, 124 < fs_N ∧ fs_kd 124 = 6]) rfl rfl (fs_oc fs_ob124 (fs_oc fs_ob124 trivial)) (fun (h8 : (M3 124 16) = (M3 124 15)) => ?_) (fun (h8 : ¬ ((M3 124 16) = (M3 124 15))) => ?_)
              · refine fs_r_nop (L1 := [some (.inr (.ref 124)), some (.inl h), zl2, zl3]) (st1 := [.inl 0]) (M1 := M3) (ob := []) rfl rfl trivial ?_
                exact join126 (0) (by split <;> first | rfl | omega)
              refine fs_r_goto (L1 := [some (.inr (.ref 124)), some (.inl h), zl2, zl3]) (st1 := [.inl 1]) (M1 := M3) (ob := []) rfl rfl trivial ?_
              exact join126 (1) (by split <;> first | rfl | omega)
            refine fs_r_call (sta := false) (idx := 187) (as := [.inr (.ref 124), .inl h]) (rest := [.inl (M3 124 16), .inr (.ref 124)]) (L1 := [some (.inr (.ref 124)), some (.inl h), zl2, zl3]) (st1 := [.inl h, .inr (.ref 124), .inl (M3 124 16), .inr (.ref 124)]) (M1 := M3) (ob := [124 < fs_N ∧ fs_kd 124 = 6]) rfl rfl rfl (fs_oc fs_ob124 trivial) rfl rfl (Nat.le_of_ble_eq_true rfl) ⟨Or.inr (Nat.le_of_ble_eq_true rfl), Or.inr fs_ob124⟩ (by decide) ?_
            refine fs_m_worthNow (f1.I hI) (f1.J hJ) (by omega) ?_
            have hw : ec_worth (mm_E M3) (mm_st M3) h = ec_worth (mm_E M) (mm_st M) h := by rw [f1.E, f1.S]
            have nb := mm_nf_b (n := h.toNat) (S := mm_st M) hI (by omega)
            have join60 : ∀ (x : Int), (fs_or (M3 124 16) x = ec_nf (mm_E M) (mm_st M) (h + 1).toNat) → fs_W (d + 5) 196 60 [some (.inr (.ref 124)), some (.inl h), zl2, zl3] [.inl x, .inl (M3 124 16), .inr (.ref 124)] M3 Q := by
              intro x k0
              refine fs_r_call (sta := false) (idx := 196) (as := [.inr (.ref 124), .inl h]) (rest := []) (L1 := [some (.inr (.ref 124)), some (.inl h), zl2, zl3]) (st1 := [.inl h, .inr (.ref 124)]) (M1 := (fs_up M3 124 16 (fs_or (M3 124 16) x))) (ob := [124 < fs_N ∧ fs_kd 124 = 6]) rfl rfl rfl (fs_oc fs_ob124 trivial) rfl rfl (Nat.le_of_ble_eq_true rfl) ⟨Or.inr (Nat.le_of_ble_eq_true rfl), Or.inr fs_ob124⟩ (by decide) ?_
              refine fs_m_must (mm_f1.I f1.u16 hI) (mm_f1.J f1.u16 hJ) (by rw [fs_up_other (by decide)]; omega) ?_
              refine fs_r_nop (L1 := [some (.inr (.ref 124)), some (.inl h), some (.inl (ec_due (mm_E (fs_up M3 124 16 (fs_or (M3 124 16) x))) h (ec_worth (mm_E (fs_up M3 124 16 (fs_or (M3 124 16) x))) (mm_st (fs_up M3 124 16 (fs_or (M3 124 16) x))) h))), some (.inl 0)]) (st1 := []) (M1 := (fs_up M3 124 16 (fs_or (M3 124 16) x))) (ob := [2 < 4, 3 < 4]) rfl rfl (fs_oc (by decide) (fs_oc (by decide) trivial)) ?_
              have loop72 : ∀ (n72 : Nat) (mn : Int) (a : Int) (M5 : fs_M), (0 ≤ a ∧ a ≤ M 125 0) → (mn = ec_due (mm_E M) h (ec_worth (mm_E M) (mm_st M) h)) → (mm_f1 M M5) → (M5 124 16 = ec_nf (mm_E M) (mm_st M) (h + 1).toNat) → (∀ q, 0 ≤ q → q < 4 → M5 130 q = if q < M 125 0 then fs_sum h.toNat (fun x => ec_pt (mm_E M) (mm_st M) q x) + (if q < a then ec_pt (mm_E M) (mm_st M) q h else 0) else 0) → M 125 0 - a < (n72 : Int) → fs_W (d + 5) 196 72 [some (.inr (.ref 124)), some (.inl h), some (.inl mn), some (.inl a)] [] M5 Q := by
                intro n72
                induction n72 with
                | zero =>
                  intro mn a M5 i2 mn0 f2 e2 z2 hm72
                  exfalso
                  omega
                | succ n72 ih72 =>
                  intro mn a M5 i2 mn0 f2 e2 z2 hm72
                  have nf20 := congrFun f2.N 0
                  have nf21 := congrFun f2.N 1
                  have xf2 := f2.2 15 (by decide)
                  have mb := mm_due_b (h := h) (w := ec_worth (mm_E M) (mm_st M) h) hI (by omega)
                  rw [← mn0] at mb
                  refine fs_r_icmp (a := a) (y := (M5 125 0)) (L1 := [some (.inr (.ref 124)), some (.inl h), some (.inl mn), some (.inl a)]) (st1 := []) (M1 := M5) (ob := [124 < fs_N ∧ fs_kd 124 = 6, (125 < fs_N ∧ fs_kd 125 = 100) ∧ (0 : Int) ≤ 0 ∧ 0 < fs_ln 125]) rfl rfl (fs_oc fs_ob124 (fs_oc (fs_ar125 (by omega) (by omega)) trivial)) (fun (h9 : (M5 125 0) ≤ a) => ?_) (fun (h9 : ¬ ((M5 125 0) ≤ a)) => ?_)
                  · refine fs_r_goto (L1 := [some (.inr (.ref 124)), some (.inl (h + 1)), some (.inl mn), some (.inl a)]) (st1 := []) (M1 := M5) (ob := [fs_rg (h + 1)]) rfl rfl (fs_oc ⟨by omega, by omega⟩ trivial) ?_
                    exact ih30 ((h + 1)) (some (.inl mn)) (some (.inl a)) M5 (by omega) (f2) (e2) (fun q q1 q2 => by rw [z2 q q1 q2, fs_sum_s i1.1]; split; rw [if_pos (by omega)]; rfl) (by omega)
                  have p0 := mm_part_b (h := h) (a := a) (due := mn) hI (by omega) (by omega)
                  rw [← f2.E] at p0
                  have p1 := mm_ps_b (a := a) (n := h.toNat) (S := mm_st M) hI (by omega) (by omega)
                  have p2 := z2 a (by omega) (by omega)
                  rw [if_pos (by omega), if_neg (by omega)] at p2
                  refine fs_r_call (sta := false) (idx := 199) (as := [.inr (.ref 124), .inl h, .inl a, .inl mn]) (rest := [.inl (M5 130 a), .inl a, .inr (.ref 130)]) (L1 := [some (.inr (.ref 124)), some (.inl h), some (.inl mn), some (.inl a)]) (st1 := [.inl mn, .inl a, .inl h, .inr (.ref 124), .inl (M5 130 a), .inl a, .inr (.ref 130)]) (M1 := M5) (ob := [124 < fs_N ∧ fs_kd 124 = 6, (130 < fs_N ∧ fs_kd 130 = 100) ∧ (0 : Int) ≤ a ∧ a < fs_ln 130]) rfl rfl (fs_exA 6 (o1 := [124 < fs_N ∧ fs_kd 124 = 6, (130 < fs_N ∧ fs_kd 130 = 100) ∧ (0 : Int) ≤ a ∧ a < fs_ln 130]) (L1 := [some (.inr (.ref 124)), some (.inl h), some (.inl mn), some (.inl a)]) (st1 := [.inr (.ref 124), .inl (M5 130 a), .inl a, .inr (.ref 130)]) (M1 := M5) (o2 := []) rfl rfl) (fs_oc fs_ob124 (fs_oc (fs_ar130 (by omega) (by omega)) trivial)) rfl rfl (Nat.le_of_ble_eq_true rfl) ⟨Or.inr (Nat.le_of_ble_eq_true rfl), Or.inr fs_ob124⟩ (by decide) ?_
                  refine fs_m_mustOf (f2.I hI) (by omega) (by omega) (by omega) ?_
                  refine fs_r_goto (L1 := [some (.inr (.ref 124)), some (.inl h), some (.inl mn), some (.inl (a + 1))]) (st1 := []) (M1 := (fs_up M5 130 a ((M5 130 a) + (ec_part (mm_E M5) h mn a)))) (ob := [fs_rg ((M5 130 a) + (ec_part (mm_E M5) h mn a)), (130 < fs_N ∧ fs_kd 130 = 100) ∧ (0 : Int) ≤ a ∧ a < fs_ln 130, fs_rg (a + 1)]) rfl rfl (fs_oc ⟨by omega, by omega⟩ (fs_oc (fs_ar130 (by omega) (by omega)) (fs_oc ⟨by omega, by omega⟩ trivial))) ?_
                  exact ih72 (mn) ((a + 1)) (fs_up M5 130 a ((M5 130 a) + (ec_part (mm_E M5) h mn a))) (by omega) (mn0) (f2.u130) (by rw [fs_up_other (by decide)]; exact e2) (fun q q1 q2 => by
                        rw [fs_up_at]
                        by_cases z : q = a
                        · rw [if_pos z, z, if_pos (by omega), if_pos (by omega), p2, f2.E, mn0, Int.add_zero]
                          rfl
                        · rw [if_neg z, z2 q q1 q2]
                          by_cases z' : q < a
                          · rw [if_pos z', if_pos (show q < a + 1 by omega)]
                          · rw [if_neg z', if_neg (show ¬ q < a + 1 by omega)]) (by omega)
              exact loop72 (((M 125 0 - (0)) : Int) + 1).toNat ((ec_due (mm_E (fs_up M3 124 16 (fs_or (M3 124 16) x))) h (ec_worth (mm_E (fs_up M3 124 16 (fs_or (M3 124 16) x))) (mm_st (fs_up M3 124 16 (fs_or (M3 124 16) x))) h))) (0) (fs_up M3 124 16 (fs_or (M3 124 16) x)) (by omega) (by rw [mm_f1.E f1.u16, mm_f1.S f1.u16]) (f1.u16) (by rw [fs_up_at, if_pos rfl]; exact k0) (fun q q1 q2 => by rw [fs_up_other (by decide), z1 q q1 q2, if_neg (by omega : ¬ q < 0)]; simp) (by omega)
            refine fs_r_if (a := (ec_worth (mm_E M3) (mm_st M3) h)) (L1 := [some (.inr (.ref 124)), some (.inl h), zl2, zl3]) (st1 := [.inl (M3 124 16), .inr (.ref 124)]) (M1 := M3) (ob := []) rfl rfl trivial (fun (h10 : 0 ≤ (ec_worth (mm_E M3) (mm_st M3) h)) => ?_) (fun (h10 : ¬ (0 ≤ (ec_worth (mm_E M3) (mm_st M3) h))) => ?_)
            · refine fs_r_nop (L1 := [some (.inr (.ref 124)), some (.inl h), zl2, zl3]) (st1 := [.inl 0, .inl (M3 124 16), .inr (.ref 124)]) (M1 := M3) (ob := []) rfl rfl trivial ?_
              exact join60 (0) (by rw [ec_nf_s i1.1, ← hw, e1]; split <;> first | rfl | (exfalso; omega) | exact fs_or0 nb.1 nb.2)
            refine fs_r_goto (L1 := [some (.inr (.ref 124)), some (.inl h), zl2, zl3]) (st1 := [.inl (fs_shl 1 h), .inl (M3 124 16), .inr (.ref 124)]) (M1 := M3) (ob := []) rfl rfl trivial ?_
            exact join60 ((fs_shl 1 h)) (by rw [ec_nf_s i1.1, ← hw, e1]; split <;> first | rfl | (exfalso; omega) | exact fs_or0 nb.1 nb.2)
        exact loop30 (((M 125 1 - (0)) : Int) + 1).toNat (0) (zl2) (zl3) M2 (by omega) (f0) (e0) (fun q q1 q2 => by rw [z0 q q1 (by omega)]; split <;> rfl) (by omega)
      refine fs_r_goto (L1 := [some (.inr (.ref 124)), some (.inl (a + 1)), zl2, zl3]) (st1 := []) (M1 := (fs_up M2 130 a 0)) (ob := [124 < fs_N ∧ fs_kd 124 = 6, (130 < fs_N ∧ fs_kd 130 = 100) ∧ (0 : Int) ≤ a ∧ a < fs_ln 130, fs_rg (a + 1)]) rfl rfl (fs_oc fs_ob124 (fs_oc (fs_ar130 (by omega) (by omega)) (fs_oc ⟨by omega, by omega⟩ trivial))) ?_
      exact ih10 ((a + 1)) (zl2) (zl3) (fs_up M2 130 a 0) (by omega) (f0.u130) (by rw [fs_up_other (by decide)]; exact e0) (fun q q1 q2 => by rw [fs_up_at]; split; rfl; exact z0 q q1 (by omega)) (by omega)
  exact loop10 (((4 - (0)) : Int) + 1).toNat (0) (none) (none) (fs_up M 124 16 (M 124 25)) (by omega) (mm_f1.rf.u16) (by rw [fs_up_at, if_pos rfl]) (fun q q1 q2 => by omega) (by omega)
