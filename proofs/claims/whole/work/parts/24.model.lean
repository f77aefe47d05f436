def mm_P (M M2 : fs_M) : Prop := (∀ r, r ≠ 124 → r ≠ 131 → M2 r = M r) ∧ (∀ i, (i < 19 ∨ 25 < i) → M2 124 i = M 124 i) ∧ (∀ h, 0 ≤ h → h < 6 → M2 131 h = 0) ∧ M2 124 19 = -1 ∧ M2 124 20 = 360 ∧ M2 124 21 = 0 ∧ M2 124 22 = -1 ∧ M2 124 23 = 0 ∧ M2 124 24 = 100 ∧ M2 124 25 = 0
theorem mm_P.I {M M2 : fs_M} (h : mm_P M M2) (k : fs_NI (M 125)) : mm_I M2 := by
  obtain ⟨h1, h2, h3, h4, h5, h6, h7, h8, h9, h10⟩ := h
  refine ⟨by rw [h1 125 (by decide) (by decide)]; exact k, fun q q0 q1 => ?_, ?_, ?_, ?_, ?_, ?_⟩
  · rw [h3 q q0 q1]
    omega
  all_goals omega
theorem mm_P.N {M M2 : fs_M} (h : mm_P M M2) : M2 125 = M 125 := h.1 125 (by decide) (by decide)
def mm_f3 (M M2 : fs_M) : Prop := (∀ r, r ≠ 124 → r ≠ 129 → r ≠ 130 → M2 r = M r) ∧ ∀ i, i ≠ 15 → i ≠ 16 → i ≠ 17 → M2 124 i = M 124 i
theorem mm_f3.rf {M : fs_M} : mm_f3 M M := ⟨fun _ _ _ _ => rfl, fun _ _ _ _ => rfl⟩
theorem mm_f3.tr {A B C : fs_M} (h : mm_f3 A B) (k : mm_f3 B C) : mm_f3 A C := ⟨fun r a b c => (k.1 r a b c).trans (h.1 r a b c), fun i a b c => (k.2 i a b c).trans (h.2 i a b c)⟩
theorem mm_f3.of2 {M M2 : fs_M} (h : mm_f2 M M2) : mm_f3 M M2 := ⟨h.1, fun i a b _ => h.2 i a b⟩
theorem mm_f3.u17 {M M2 : fs_M} {v : Int} (h : mm_f3 M M2) : mm_f3 M (fs_up M2 124 17 v) := ⟨fun r a b c => by rw [fs_up_other a]; exact h.1 r a b c, fun i a b c => by rw [fs_up_at, if_neg c]; exact h.2 i a b c⟩
theorem mm_f3.E {M M2 : fs_M} (h : mm_f3 M M2) : mm_E M2 = mm_E M := by
  unfold mm_E
  rw [h.1 125 (by decide) (by decide) (by decide), h.1 131 (by decide) (by decide) (by decide), h.2 25 (by decide) (by decide) (by decide), h.2 24 (by decide) (by decide) (by decide), h.2 19 (by decide) (by decide) (by decide), h.2 21 (by decide) (by decide) (by decide), h.2 20 (by decide) (by decide) (by decide), h.2 22 (by decide) (by decide) (by decide), h.2 23 (by decide) (by decide) (by decide)]
theorem mm_f3.I {M M2 : fs_M} (h : mm_f3 M M2) (k : mm_I M) : mm_I M2 := by
  unfold mm_I at *
  rw [h.1 125 (by decide) (by decide) (by decide), h.1 131 (by decide) (by decide) (by decide), h.2 25 (by decide) (by decide) (by decide), h.2 24 (by decide) (by decide) (by decide), h.2 21 (by decide) (by decide) (by decide), h.2 20 (by decide) (by decide) (by decide), h.2 23 (by decide) (by decide) (by decide)]
  exact k
theorem mm_f3.N {M M2 : fs_M} (h : mm_f3 M M2) : M2 125 = M 125 := h.1 125 (by decide) (by decide) (by decide)
theorem mm_u17 {M : fs_M} {v : Int} : mm_st (fs_up M 124 17 v) = mm_st M ∧ (mm_J M → mm_J (fs_up M 124 17 v)) ∧ (mm_Z M → mm_Z (fs_up M 124 17 v)) := by
  have e1 : fs_up M 124 17 v 124 15 = M 124 15 := rfl
  have e2 : fs_up M 124 17 v 129 = M 129 := fs_up_other (by decide)
  have e3 : fs_up M 124 17 v 125 = M 125 := fs_up_other (by decide)
  refine ⟨?_, fun h => ?_, fun h => ?_⟩
  · unfold mm_st
    rw [e1, e2]
  · unfold mm_J
    rw [e1, e2]
    exact h
  · unfold mm_Z
    rw [e2, e3]
    exact h
theorem mm_held_b {M : fs_M} {a : Int} (hN : fs_NI (M 125)) (ha : 0 ≤ a ∧ a < 4) : 0 ≤ mm_held (M 125) a ∧ mm_held (M 125) a ≤ 360 := by
  obtain ⟨⟨hA0, hA1⟩, ⟨hH0, hH1⟩, hcv, hfc, hhd, -⟩ := id hN
  have := fs_sum_b (n := (M 125 1).toNat) (f := fun h => M 125 (40 + 4 * h + a)) (b := 60) (fun h h0 h1 => hhd h a h0 (by omega) ha.1 ha.2)
  unfold mm_held
  omega
theorem fs_shl6 {h : Int} (h0 : 0 ≤ h) (h1 : h ≤ 6) : 1 ≤ fs_shl 1 h ∧ fs_shl 1 h ≤ 64 := by
  have key : ∀ o : Fin 7, 1 ≤ fs_shl 1 (o.val : Int) ∧ fs_shl 1 (o.val : Int) ≤ 64 := by decide +kernel
  have := key ⟨h.toNat, by omega⟩
  simp only [Int.toNat_of_nonneg h0] at this
  exact this
/-- a laid state -/
theorem mm_laid {M M2 : fs_M} {S : Int → Int} (hI : mm_I M) (f : mm_f2 M M2) (h4 : M2 124 15 = S 4) (hS : ∀ q, 0 ≤ q → q < 4 → M2 129 q = S q) (hz : ∀ q, ¬ (0 ≤ q ∧ q < 4) → q ≠ 4 → S q = 0) (hb : 0 ≤ S 4 ∧ S 4 < 64) (hq : ∀ q, 0 ≤ q → q < 4 → 0 ≤ S q ∧ S q ≤ 360) (hA : ∀ q, M 125 0 ≤ q → q < 4 → S q = 0) : mm_st M2 = S ∧ mm_J M2 ∧ mm_Z M2 := by
  refine ⟨?_, ⟨by rw [h4]; exact hb, fun a a0 a1 => by rw [hS a a0 a1]; exact hq a a0 a1⟩, fun a a0 a1 => ?_⟩
  · funext i
    unfold mm_st
    by_cases q : i = 4
    · rw [if_pos q, q, h4]
    · rw [if_neg q]
      by_cases q2 : 0 ≤ i ∧ i < 4
      · rw [if_pos q2, hS i q2.1 q2.2]
      · rw [if_neg q2, hz i q2 q]
  · rw [f.N] at a0
    rw [hS a (by have := hI.1.1.1; omega) a1]
    exact hA a a0 a1
theorem fs_m_plain {d : Nat} {M : fs_M} {Q : Option fs_V → fs_M → Prop}    (hq0 : ∀ (M2 : fs_M), (mm_P M M2) → Q none M2) : fs_W (d) 189 0 [some (.inr (.ref 124)), none] [] M Q := by
  refine fs_r_nop (L1 := [some (.inr (.ref 124)), some (.inl 0)]) (st1 := []) (M1 := M) (ob := [1 < 2]) rfl rfl (fs_oc (by decide) trivial) ?_
  have loop2 : ∀ (n2 : Nat) (h : Int) (M3 : fs_M), (0 ≤ h ∧ h ≤ 6) → (∀ r, r ≠ 131 → M3 r = M r) → (∀ q, 0 ≤ q → q < h → M3 131 q = 0) → 6 - h < (n2 : Int) → fs_W (d) 189 2 [some (.inr (.ref 124)), some (.inl h)] [] M3 Q := by
    intro n2
    induction n2 with
    | zero =>
      intro h M3 i0 f0 z0 hm2
      exfalso
      omega
    | succ n2 ih2 =>
      intro h M3 i0 f0 z0 hm2
      refine fs_r_icmp (a := h) (y := 6) (L1 := [some (.inr (.ref 124)), some (.inl h)]) (st1 := []) (M1 := M3) (ob := []) rfl rfl trivial (fun (h1 : 6 ≤ h) => ?_) (fun (h1 : ¬ (6 ≤ h)) => ?_)
      · refine fs_r_ret (L1 := [some (.inr (.ref 124)), some (.inl h)]) (M1 := (fs_up (fs_up (fs_up (fs_up (fs_up (fs_up (fs_up M3 124 19 (-1)) 124 20 360) 124 21 0) 124 22 (-1)) 124 23 0) 124 24 100) 124 25 0)) (ob := [124 < fs_N ∧ fs_kd 124 = 6, 124 < fs_N ∧ fs_kd 124 = 6, 124 < fs_N ∧ fs_kd 124 = 6, 124 < fs_N ∧ fs_kd 124 = 6, 124 < fs_N ∧ fs_kd 124 = 6, 124 < fs_N ∧ fs_kd 124 = 6, 124 < fs_N ∧ fs_kd 124 = 6]) rfl (fs_exA 6 (o1 := [124 < fs_N ∧ fs_kd 124 = 6, 124 < fs_N ∧ fs_kd 124 = 6]) (L1 := [some (.inr (.ref 124)), some (.inl h)]) (st1 := []) (M1 := (fs_up (fs_up M3 124 19 (-1)) 124 20 360)) (o2 := [124 < fs_N ∧ fs_kd 124 = 6, 124 < fs_N ∧ fs_kd 124 = 6, 124 < fs_N ∧ fs_kd 124 = 6, 124 < fs_N ∧ fs_kd 124 = 6, 124 < fs_N ∧ fs_kd 124 = 6]) rfl (fs_exA 6 (o1 := [124 < fs_N ∧ fs_kd 124 = 6, 124 < fs_N ∧ fs_kd 124 = 6]) (L1 := [some (.inr (.ref 124)), some (.inl h)]) (st1 := []) (M1 := (fs_up (fs_up (fs_up (fs_up M3 124 19 (-1)) 124 20 360) 124 21 0) 124 22 (-1))) (o2 := [124 < fs_N ∧ fs_kd 124 = 6, 124 < fs_N ∧ fs_kd 124 = 6, 124 < fs_N ∧ fs_kd 124 = 6]) rfl (fs_exA 6 (o1 := [124 < fs_N ∧ fs_kd 124 = 6, 124 < fs_N ∧ fs_kd 124 = 6]) (L1 := [some (.inr (.ref 124)), some (.inl h)]) (st1 := []) (M1 := (fs_up (fs_up (fs_up (fs_up (fs_up (fs_up M3 124 19 (-1)) 124 20 360) 124 21 0) 124 22 (-1)) 124 23 0) 124 24 100)) (o2 := [124 < fs_N ∧ fs_kd 124 = 6]) rfl rfl))) (fs_oc fs_ob124 (fs_oc fs_ob124 (fs_oc fs_ob124 (fs_oc fs_ob124 (fs_oc fs_ob124 (fs_oc fs_ob124 (fs_oc fs_ob124 trivial))))))) ?_
        refine hq0 _ ⟨fun r q1 q2 => ?_, fun i q => ?_, fun h2 q1 q2 => ?_, rfl, rfl, rfl, rfl, rfl, rfl, rfl⟩
        · simp only [fs_up_other q1]
          exact f0 r q2
        · simp only [fs_up_at]
          rw [if_neg (by omega), if_neg (by omega), if_neg (by omega), if_neg (by omega), if_neg (by omega), if_neg (by omega), if_neg (by omega), f0 124 (by decide)]
        · simp only [fs_up_other (show (131 : Nat) ≠ 124 by decide)]
          exact z0 h2 q1 (by omega)
      refine fs_r_goto (L1 := [some (.inr (.ref 124)), some (.inl (h + 1))]) (st1 := []) (M1 := (fs_up M3 131 h 0)) (ob := [124 < fs_N ∧ fs_kd 124 = 6, (131 < fs_N ∧ fs_kd 131 = 100) ∧ (0 : Int) ≤ h ∧ h < fs_ln 131, fs_rg (h + 1)]) rfl rfl (fs_oc fs_ob124 (fs_oc (fs_ar131 (by omega) (by omega)) (fs_oc ⟨by omega, by omega⟩ trivial))) ?_
      exact ih2 ((h + 1)) (fs_up M3 131 h 0) (by omega) (fun r q => by rw [fs_up_other q]; exact f0 r q) (fun q q1 q2 => by rw [fs_up_at]; split; rfl; exact z0 q q1 (by omega)) (by omega)
  exact loop2 (((6 - (0)) : Int) + 1).toNat (0) M (by omega) (fun r q => rfl) (fun q q1 q2 => by omega) (by omega)

theorem fs_m_calm {d : Nat} {M : fs_M} {Q : Option fs_V → fs_M → Prop}   (hI : mm_I M) (hq0 : ∀ (M2 : fs_M), (mm_f2 M M2) → (mm_st M2 = ec_calm (mm_E M)) → (mm_J M2) → (mm_Z M2) → Q none M2) : fs_W (d) 197 0 [some (.inr (.ref 124)), none] [] M Q := by
  obtain ⟨hN, hco, ⟨hp0, hp1⟩, ⟨hx0, hx1⟩, ⟨hb0, hb1⟩, ⟨hc0, hc1⟩, ⟨hfo0, hfo1⟩⟩ := id hI
  obtain ⟨⟨hA0, hA1⟩, ⟨hH0, hH1⟩, hcv, hfc, hhd, hln, hsh, hit, hst⟩ := id hN
  refine fs_r_nop (L1 := [some (.inr (.ref 124)), some (.inl 0)]) (st1 := []) (M1 := M) (ob := [1 < 2]) rfl rfl (fs_oc (by decide) trivial) ?_
  have loop2 : ∀ (n2 : Nat) (a : Int) (M3 : fs_M), (0 ≤ a ∧ a ≤ 4) → (∀ r, r ≠ 129 → M3 r = M r) → (∀ q, 0 ≤ q → q < a → M3 129 q = 0) → 4 - a < (n2 : Int) → fs_W (d) 197 2 [some (.inr (.ref 124)), some (.inl a)] [] M3 Q := by
    intro n2
    induction n2 with
    | zero =>
      intro a M3 i0 f0 z0 hm2
      exfalso
      omega
    | succ n2 ih2 =>
      intro a M3 i0 f0 z0 hm2
      refine fs_r_icmp (a := a) (y := 4) (L1 := [some (.inr (.ref 124)), some (.inl a)]) (st1 := []) (M1 := M3) (ob := []) rfl rfl trivial (fun (h1 : 4 ≤ a) => ?_) (fun (h1 : ¬ (4 ≤ a)) => ?_)
      · refine fs_r_ret (L1 := [some (.inr (.ref 124)), some (.inl a)]) (M1 := (fs_up M3 124 15 (M3 124 25))) (ob := [124 < fs_N ∧ fs_kd 124 = 6, 124 < fs_N ∧ fs_kd 124 = 6]) rfl rfl (fs_oc fs_ob124 (fs_oc fs_ob124 trivial)) ?_
        have f9 : mm_f2 M (fs_up M3 124 15 (M3 124 25)) := mm_f2.u15 ⟨fun r _ q2 _ => f0 r q2, fun i _ _ => by rw [f0 124 (by decide)]⟩
        obtain ⟨r1, r2, r3⟩ := mm_laid (S := ec_calm (mm_E M)) hI f9 (by show M3 124 25 = M 124 25; rw [f0 124 (by decide)]) (fun q q1 q2 => by rw [fs_up_other (by decide), z0 q q1 (by omega)]; unfold ec_calm; rw [if_neg (by omega)]) (fun q q1 q2 => by unfold ec_calm; rw [if_neg q2]) ⟨hfo0, hfo1⟩ (fun q q1 q2 => by unfold ec_calm; rw [if_neg (by omega)]; omega) (fun q q1 q2 => by unfold ec_calm; rw [if_neg (by omega)])
        exact hq0 _ f9 r1 r2 r3
      refine fs_r_goto (L1 := [some (.inr (.ref 124)), some (.inl (a + 1))]) (st1 := []) (M1 := (fs_up M3 129 a 0)) (ob := [124 < fs_N ∧ fs_kd 124 = 6, (129 < fs_N ∧ fs_kd 129 = 100) ∧ (0 : Int) ≤ a ∧ a < fs_ln 129, fs_rg (a + 1)]) rfl rfl (fs_oc fs_ob124 (fs_oc (fs_ar129 (by omega) (by omega)) (fs_oc ⟨by omega, by omega⟩ trivial))) ?_
      exact ih2 ((a + 1)) (fs_up M3 129 a 0) (by omega) (fun r q => by rw [fs_up_other q]; exact f0 r q) (fun q q1 q2 => by rw [fs_up_at]; split; rfl; exact z0 q q1 (by omega)) (by omega)
  exact loop2 (((4 - (0)) : Int) + 1).toNat (0) M (by omega) (fun r q => rfl) (fun q q1 q2 => by omega) (by omega)

theorem fs_m_panic {d : Nat} {M : fs_M} {Q : Option fs_V → fs_M → Prop}   (hI : mm_I M) (hq0 : ∀ (M2 : fs_M), (mm_f2 M M2) → (mm_st M2 = ec_panic (mm_E M)) → (mm_J M2) → (mm_Z M2) → Q none M2) : fs_W (d + 3) 198 0 [some (.inr (.ref 124)), none, none] [] M Q := by
  obtain ⟨hN, hco, ⟨hp0, hp1⟩, ⟨hx0, hx1⟩, ⟨hb0, hb1⟩, ⟨hc0, hc1⟩, ⟨hfo0, hfo1⟩⟩ := id hI
  obtain ⟨⟨hA0, hA1⟩, ⟨hH0, hH1⟩, hcv, hfc, hhd, hln, hsh, hit, hst⟩ := id hN
  refine fs_r_nop (L1 := [some (.inr (.ref 124)), some (.inl 0), none]) (st1 := []) (M1 := M) (ob := [1 < 3]) rfl rfl (fs_oc (by decide) trivial) ?_
  have loop2 : ∀ (n2 : Nat) (a : Int) (zl2 : Option fs_V) (M3 : fs_M), (0 ≤ a ∧ a ≤ 4) → (∀ r, r ≠ 129 → M3 r = M r) → (∀ q, 0 ≤ q → q < a → M3 129 q = ec_panic (mm_E M) q) → 4 - a < (n2 : Int) → fs_W (d + 3) 198 2 [some (.inr (.ref 124)), some (.inl a), zl2] [] M3 Q := by
    intro n2
    induction n2 with
    | zero =>
      intro a zl2 M3 i0 f0 z0 hm2
      exfalso
      omega
    | succ n2 ih2 =>
      intro a zl2 M3 i0 f0 z0 hm2
      have f9 : mm_f2 M M3 := ⟨fun r _ q2 _ => f0 r q2, fun i _ _ => by rw [f0 124 (by decide)]⟩
      have n0 := congrFun f9.N 0
      have n1 := congrFun f9.N 1
      have hI3 := f9.I hI
      have pa : 0 ≤ a → a < 4 → ec_panic (mm_E M) a = if a < M 125 0 then min (mm_held (M 125) a) (mm_E M 3 a) else 0 := fun q1 q2 => by
        unfold ec_panic
        rw [if_neg (by omega)]
        show (if 0 ≤ a ∧ a < M 125 0 then min (mm_held (M 125) a) (mm_E M 3 a) else 0) = _
        split <;> split <;> first | rfl | omega
      refine fs_r_icmp (a := a) (y := 4) (L1 := [some (.inr (.ref 124)), some (.inl a), zl2]) (st1 := []) (M1 := M3) (ob := []) rfl rfl trivial (fun (h1 : 4 ≤ a) => ?_) (fun (h1 : ¬ (4 ≤ a)) => ?_)
      · have s6 := fs_shl6 (h := M3 125 1) (by omega) (by omega)
        have s7 := fs_shl6 hH0 hH1
        refine fs_r_ret (L1 := [some (.inr (.ref 124)), some (.inl a), zl2]) (M1 := (fs_up M3 124 15 ((fs_shl 1 (M3 125 1)) - 1))) (ob := [124 < fs_N ∧ fs_kd 124 = 6, (125 < fs_N ∧ fs_kd 125 = 100) ∧ (0 : Int) ≤ 1 ∧ 1 < fs_ln 125, fs_rg ((fs_shl 1 (M3 125 1)) - 1), 124 < fs_N ∧ fs_kd 124 = 6]) rfl (fs_exA 6 (o1 := [124 < fs_N ∧ fs_kd 124 = 6, (125 < fs_N ∧ fs_kd 125 = 100) ∧ (0 : Int) ≤ 1 ∧ 1 < fs_ln 125]) (L1 := [some (.inr (.ref 124)), some (.inl a), zl2]) (st1 := [.inl (M3 125 1), .inl 1, .inr (.ref 124)]) (M1 := M3) (o2 := [fs_rg ((fs_shl 1 (M3 125 1)) - 1), 124 < fs_N ∧ fs_kd 124 = 6]) rfl rfl) (fs_oc fs_ob124 (fs_oc (fs_ar125 (by omega) (by omega)) (fs_oc ⟨by omega, by omega⟩ (fs_oc fs_ob124 trivial)))) ?_
        have f8 : mm_f2 M (fs_up M3 124 15 ((fs_shl 1 (M3 125 1)) - 1)) := f9.u15
        obtain ⟨r1, r2, r3⟩ := mm_laid (S := ec_panic (mm_E M)) hI f8 (by rw [fs_up_at, if_pos rfl, n1]; rfl) (fun q q1 q2 => by rw [fs_up_other (by decide), z0 q q1 (by omega)]) (fun q q1 q2 => by unfold ec_panic; rw [if_neg q2, if_neg (fun w => q1 ⟨w.1, by have h2 : q < M 125 0 := w.2; omega⟩)]) (by show 0 ≤ fs_shl 1 (M 125 1) - 1 ∧ fs_shl 1 (M 125 1) - 1 < 64; omega) (fun q q1 q2 => by
            unfold ec_panic
            rw [if_neg (by omega)]
            have h1 := mm_held_b (a := q) hN ⟨q1, q2⟩
            have h2 := mm_capE_b (a := q) hI
            show 0 ≤ (if 0 ≤ q ∧ q < M 125 0 then min (mm_held (M 125) q) (mm_E M 3 q) else 0) ∧ (if 0 ≤ q ∧ q < M 125 0 then min (mm_held (M 125) q) (mm_E M 3 q) else 0) ≤ 360
            by_cases w : 0 ≤ q ∧ q < M 125 0
            · rw [if_pos w]
              omega
            · rw [if_neg w]
              omega) (fun q q1 q2 => by unfold ec_panic; rw [if_neg (by omega), if_neg (fun w => by have h2 : q < M 125 0 := w.2; omega)])
        exact hq0 _ f8 r1 r2 r3
      refine fs_r_icmp (a := a) (y := (M3 125 0)) (L1 := [some (.inr (.ref 124)), some (.inl a), zl2]) (st1 := []) (M1 := M3) (ob := [124 < fs_N ∧ fs_kd 124 = 6, (125 < fs_N ∧ fs_kd 125 = 100) ∧ (0 : Int) ≤ 0 ∧ 0 < fs_ln 125]) rfl rfl (fs_oc fs_ob124 (fs_oc (fs_ar125 (by omega) (by omega)) trivial)) (fun (h2 : (M3 125 0) ≤ a) => ?_) (fun (h2 : ¬ ((M3 125 0) ≤ a)) => ?_)
      · refine fs_r_nop (L1 := [some (.inr (.ref 124)), some (.inl a), zl2]) (st1 := [.inl 0]) (M1 := M3) (ob := []) rfl rfl trivial ?_
        refine fs_r_icmp (a := a) (y := (M3 125 0)) (L1 := [some (.inr (.ref 124)), some (.inl a), some (.inl 0)]) (st1 := [.inl a, .inr (.ref 129)]) (M1 := M3) (ob := [2 < 3, 124 < fs_N ∧ fs_kd 124 = 6, 124 < fs_N ∧ fs_kd 124 = 6, (125 < fs_N ∧ fs_kd 125 = 100) ∧ (0 : Int) ≤ 0 ∧ 0 < fs_ln 125]) rfl (fs_exA 6 (o1 := [2 < 3, 124 < fs_N ∧ fs_kd 124 = 6]) (L1 := [some (.inr (.ref 124)), some (.inl a), some (.inl 0)]) (st1 := [.inr (.ref 124), .inl a, .inl a, .inr (.ref 129)]) (M1 := M3) (o2 := [124 < fs_N ∧ fs_kd 124 = 6, (125 < fs_N ∧ fs_kd 125 = 100) ∧ (0 : Int) ≤ 0 ∧ 0 < fs_ln 125]) rfl rfl) (fs_oc (by decide) (fs_oc fs_ob124 (fs_oc fs_ob124 (fs_oc (fs_ar125 (by omega) (by omega)) trivial)))) (fun (h3 : (M3 125 0) ≤ a) => ?_) (fun (h3 : ¬ ((M3 125 0) ≤ a)) => ?_)
        · refine fs_r_nop (L1 := [some (.inr (.ref 124)), some (.inl a), some (.inl 0)]) (st1 := [.inl 0, .inl a, .inr (.ref 129)]) (M1 := M3) (ob := []) rfl rfl trivial ?_
          refine fs_r_goto (L1 := [some (.inr (.ref 124)), some (.inl (a + 1)), some (.inl 0)]) (st1 := []) (M1 := (fs_up M3 129 a 0)) (ob := [(129 < fs_N ∧ fs_kd 129 = 100) ∧ (0 : Int) ≤ a ∧ a < fs_ln 129, fs_rg (a + 1)]) rfl rfl (fs_oc (fs_ar129 (by omega) (by omega)) (fs_oc ⟨by omega, by omega⟩ trivial)) ?_
          exact ih2 ((a + 1)) (some (.inl 0)) (fs_up M3 129 a 0) (by omega) (fun r q => by rw [fs_up_other q]; exact f0 r q) (fun q q1 q2 => by
                rw [fs_up_at]
                by_cases z : q = a
                · rw [if_pos z, z, pa (by omega) (by omega)]
                  try rw [f9.E]
                  try rw [f9.N]
                  try rw [f9.E] at *
                  try rw [f9.N] at *
                  split <;> omega
                · rw [if_neg z]
                  exact z0 q q1 (by omega)) (by omega)
        refine fs_r_call (sta := false) (idx := 202) (as := [.inr (.ref 124), .inl a]) (rest := [.inl a, .inr (.ref 129)]) (L1 := [some (.inr (.ref 124)), some (.inl a), some (.inl 0)]) (st1 := [.inl a, .inr (.ref 124), .inl a, .inr (.ref 129)]) (M1 := M3) (ob := []) rfl rfl rfl trivial rfl rfl (Nat.le_of_ble_eq_true rfl) ⟨Or.inr (Nat.le_of_ble_eq_true rfl), Or.inr fs_ob124⟩ (by decide) ?_
        refine fs_m_capOf (hI3) ?_
        refine fs_r_icmp (a := (mm_E M3 3 a)) (y := 0) (L1 := [some (.inr (.ref 124)), some (.inl a), some (.inl 0)]) (st1 := [.inl a, .inr (.ref 129)]) (M1 := M3) (ob := []) rfl rfl trivial (fun (h4 : 0 ≤ (mm_E M3 3 a)) => ?_) (fun (h4 : ¬ (0 ≤ (mm_E M3 3 a))) => ?_)
        · refine fs_r_nop (L1 := [some (.inr (.ref 124)), some (.inl a), some (.inl 0)]) (st1 := [.inl 0, .inl a, .inr (.ref 129)]) (M1 := M3) (ob := []) rfl rfl trivial ?_
          refine fs_r_goto (L1 := [some (.inr (.ref 124)), some (.inl (a + 1)), some (.inl 0)]) (st1 := []) (M1 := (fs_up M3 129 a 0)) (ob := [(129 < fs_N ∧ fs_kd 129 = 100) ∧ (0 : Int) ≤ a ∧ a < fs_ln 129, fs_rg (a + 1)]) rfl rfl (fs_oc (fs_ar129 (by omega) (by omega)) (fs_oc ⟨by omega, by omega⟩ trivial)) ?_
          exact ih2 ((a + 1)) (some (.inl 0)) (fs_up M3 129 a 0) (by omega) (fun r q => by rw [fs_up_other q]; exact f0 r q) (fun q q1 q2 => by
                rw [fs_up_at]
                by_cases z : q = a
                · rw [if_pos z, z, pa (by omega) (by omega)]
                  try rw [f9.E]
                  try rw [f9.N]
                  try rw [f9.E] at *
                  try rw [f9.N] at *
                  split <;> omega
                · rw [if_neg z]
                  exact z0 q q1 (by omega)) (by omega)
        refine fs_r_call (sta := false) (idx := 202) (as := [.inr (.ref 124), .inl a]) (rest := [.inl a, .inr (.ref 129)]) (L1 := [some (.inr (.ref 124)), some (.inl a), some (.inl 0)]) (st1 := [.inl a, .inr (.ref 124), .inl a, .inr (.ref 129)]) (M1 := M3) (ob := []) rfl rfl rfl trivial rfl rfl (Nat.le_of_ble_eq_true rfl) ⟨Or.inr (Nat.le_of_ble_eq_true rfl), Or.inr fs_ob124⟩ (by decide) ?_
        refine fs_m_capOf (hI3) ?_
        refine fs_r_goto (L1 := [some (.inr (.ref 124)), some (.inl a), some (.inl 0)]) (st1 := [.inl (mm_E M3 3 a), .inl a, .inr (.ref 129)]) (M1 := M3) (ob := []) rfl rfl trivial ?_
        refine fs_r_goto (L1 := [some (.inr (.ref 124)), some (.inl (a + 1)), some (.inl 0)]) (st1 := []) (M1 := (fs_up M3 129 a (mm_E M3 3 a))) (ob := [(129 < fs_N ∧ fs_kd 129 = 100) ∧ (0 : Int) ≤ a ∧ a < fs_ln 129, fs_rg (a + 1)]) rfl rfl (fs_oc (fs_ar129 (by omega) (by omega)) (fs_oc ⟨by omega, by omega⟩ trivial)) ?_
        exact ih2 ((a + 1)) (some (.inl 0)) (fs_up M3 129 a (mm_E M3 3 a)) (by omega) (fun r q => by rw [fs_up_other q]; exact f0 r q) (fun q q1 q2 => by
              rw [fs_up_at]
              by_cases z : q = a
              · rw [if_pos z, z, pa (by omega) (by omega)]
                try rw [f9.E]
                try rw [f9.N]
                try rw [f9.E] at *
                try rw [f9.N] at *
                split <;> omega
              · rw [if_neg z]
                exact z0 q q1 (by omega)) (by omega)
      skip
      refine fs_r_call (sta := false) (idx := 205) (as := [.inr (.ref 124), .inl a]) (rest := []) (L1 := [some (.inr (.ref 124)), some (.inl a), zl2]) (st1 := [.inl a, .inr (.ref 124)]) (M1 := M3) (ob := []) rfl rfl rfl trivial rfl rfl (Nat.le_of_ble_eq_true rfl) ⟨Or.inr (Nat.le_of_ble_eq_true rfl), Or.inr fs_ob124⟩ (by decide) ?_
      refine fs_m_heldOf (by rw [f9.N]; exact hN) (by omega) ?_
      refine fs_r_goto (L1 := [some (.inr (.ref 124)), some (.inl a), zl2]) (st1 := [.inl (mm_held (M3 125) a)]) (M1 := M3) (ob := []) rfl rfl trivial ?_
      refine fs_r_icmp (a := a) (y := (M3 125 0)) (L1 := [some (.inr (.ref 124)), some (.inl a), some (.inl (mm_held (M3 125) a))]) (st1 := [.inl a, .inr (.ref 129)]) (M1 := M3) (ob := [2 < 3, 124 < fs_N ∧ fs_kd 124 = 6, 124 < fs_N ∧ fs_kd 124 = 6, (125 < fs_N ∧ fs_kd 125 = 100) ∧ (0 : Int) ≤ 0 ∧ 0 < fs_ln 125]) rfl (fs_exA 6 (o1 := [2 < 3, 124 < fs_N ∧ fs_kd 124 = 6]) (L1 := [some (.inr (.ref 124)), some (.inl a), some (.inl (mm_held (M3 125) a))]) (st1 := [.inr (.ref 124), .inl a, .inl a, .inr (.ref 129)]) (M1 := M3) (o2 := [124 < fs_N ∧ fs_kd 124 = 6, (125 < fs_N ∧ fs_kd 125 = 100) ∧ (0 : Int) ≤ 0 ∧ 0 < fs_ln 125]) rfl rfl) (fs_oc (by decide) (fs_oc fs_ob124 (fs_oc fs_ob124 (fs_oc (fs_ar125 (by omega) (by omega)) trivial)))) (fun (h5 : (M3 125 0) ≤ a) => ?_) (fun (h5 : ¬ ((M3 125 0) ≤ a)) => ?_)
      · refine fs_r_nop (L1 := [some (.inr (.ref 124)), some (.inl a), some (.inl (mm_held (M3 125) a))]) (st1 := [.inl (mm_held (M3 125) a), .inl a, .inr (.ref 129)]) (M1 := M3) (ob := []) rfl rfl trivial ?_
        refine fs_r_goto (L1 := [some (.inr (.ref 124)), some (.inl (a + 1)), some (.inl (mm_held (M3 125) a))]) (st1 := []) (M1 := (fs_up M3 129 a (mm_held (M3 125) a))) (ob := [(129 < fs_N ∧ fs_kd 129 = 100) ∧ (0 : Int) ≤ a ∧ a < fs_ln 129, fs_rg (a + 1)]) rfl rfl (fs_oc (fs_ar129 (by omega) (by omega)) (fs_oc ⟨by omega, by omega⟩ trivial)) ?_
        exact ih2 ((a + 1)) (some (.inl (mm_held (M3 125) a))) (fs_up M3 129 a (mm_held (M3 125) a)) (by omega) (fun r q => by rw [fs_up_other q]; exact f0 r q) (fun q q1 q2 => by
              rw [fs_up_at]
              by_cases z : q = a
              · rw [if_pos z, z, pa (by omega) (by omega)]
                try rw [f9.E]
                try rw [f9.N]
                try rw [f9.E] at *
                try rw [f9.N] at *
                split <;> omega
              · rw [if_neg z]
                exact z0 q q1 (by omega)) (by omega)
      refine fs_r_call (sta := false) (idx := 202) (as := [.inr (.ref 124), .inl a]) (rest := [.inl a, .inr (.ref 129)]) (L1 := [some (.inr (.ref 124)), some (.inl a), some (.inl (mm_held (M3 125) a))]) (st1 := [.inl a, .inr (.ref 124), .inl a, .inr (.ref 129)]) (M1 := M3) (ob := []) rfl rfl rfl trivial rfl rfl (Nat.le_of_ble_eq_true rfl) ⟨Or.inr (Nat.le_of_ble_eq_true rfl), Or.inr fs_ob124⟩ (by decide) ?_
      refine fs_m_capOf (hI3) ?_
      refine fs_r_icmp (a := (mm_E M3 3 a)) (y := (mm_held (M3 125) a)) (L1 := [some (.inr (.ref 124)), some (.inl a), some (.inl (mm_held (M3 125) a))]) (st1 := [.inl a, .inr (.ref 129)]) (M1 := M3) (ob := []) rfl rfl trivial (fun (h6 : (mm_held (M3 125) a) ≤ (mm_E M3 3 a)) => ?_) (fun (h6 : ¬ ((mm_held (M3 125) a) ≤ (mm_E M3 3 a))) => ?_)
      · refine fs_r_nop (L1 := [some (.inr (.ref 124)), some (.inl a), some (.inl (mm_held (M3 125) a))]) (st1 := [.inl (mm_held (M3 125) a), .inl a, .inr (.ref 129)]) (M1 := M3) (ob := []) rfl rfl trivial ?_
        refine fs_r_goto (L1 := [some (.inr (.ref 124)), some (.inl (a + 1)), some (.inl (mm_held (M3 125) a))]) (st1 := []) (M1 := (fs_up M3 129 a (mm_held (M3 125) a))) (ob := [(129 < fs_N ∧ fs_kd 129 = 100) ∧ (0 : Int) ≤ a ∧ a < fs_ln 129, fs_rg (a + 1)]) rfl rfl (fs_oc (fs_ar129 (by omega) (by omega)) (fs_oc ⟨by omega, by omega⟩ trivial)) ?_
        exact ih2 ((a + 1)) (some (.inl (mm_held (M3 125) a))) (fs_up M3 129 a (mm_held (M3 125) a)) (by omega) (fun r q => by rw [fs_up_other q]; exact f0 r q) (fun q q1 q2 => by
              rw [fs_up_at]
              by_cases z : q = a
              · rw [if_pos z, z, pa (by omega) (by omega)]
                try rw [f9.E]
                try rw [f9.N]
                try rw [f9.E] at *
                try rw [f9.N] at *
                split <;> omega
              · rw [if_neg z]
                exact z0 q q1 (by omega)) (by omega)
      refine fs_r_call (sta := false) (idx := 202) (as := [.inr (.ref 124), .inl a]) (rest := [.inl a, .inr (.ref 129)]) (L1 := [some (.inr (.ref 124)), some (.inl a), some (.inl (mm_held (M3 125) a))]) (st1 := [.inl a, .inr (.ref 124), .inl a, .inr (.ref 129)]) (M1 := M3) (ob := []) rfl rfl rfl trivial rfl rfl (Nat.le_of_ble_eq_true rfl) ⟨Or.inr (Nat.le_of_ble_eq_true rfl), Or.inr fs_ob124⟩ (by decide) ?_
      refine fs_m_capOf (hI3) ?_
      refine fs_r_goto (L1 := [some (.inr (.ref 124)), some (.inl a), some (.inl (mm_held (M3 125) a))]) (st1 := [.inl (mm_E M3 3 a), .inl a, .inr (.ref 129)]) (M1 := M3) (ob := []) rfl rfl trivial ?_
      refine fs_r_goto (L1 := [some (.inr (.ref 124)), some (.inl (a + 1)), some (.inl (mm_held (M3 125) a))]) (st1 := []) (M1 := (fs_up M3 129 a (mm_E M3 3 a))) (ob := [(129 < fs_N ∧ fs_kd 129 = 100) ∧ (0 : Int) ≤ a ∧ a < fs_ln 129, fs_rg (a + 1)]) rfl rfl (fs_oc (fs_ar129 (by omega) (by omega)) (fs_oc ⟨by omega, by omega⟩ trivial)) ?_
      exact ih2 ((a + 1)) (some (.inl (mm_held (M3 125) a))) (fs_up M3 129 a (mm_E M3 3 a)) (by omega) (fun r q => by rw [fs_up_other q]; exact f0 r q) (fun q q1 q2 => by
            rw [fs_up_at]
            by_cases z : q = a
            · rw [if_pos z, z, pa (by omega) (by omega)]
              try rw [f9.E]
              try rw [f9.N]
              try rw [f9.E] at *
              try rw [f9.N] at *
              split <;> omega
            · rw [if_neg z]
              exact z0 q q1 (by omega)) (by omega)
  exact loop2 (((4 - (0)) : Int) + 1).toNat (0) (none) M (by omega) (fun r q => rfl) (fun q q1 q2 => by omega) (by omega)

theorem fs_m_settles {d : Nat} {M : fs_M} {Q : Option fs_V → fs_M → Prop}   (hI : mm_I M) (hJ : mm_J M) (hZ : mm_Z M) (hk : ec_ok (mm_E M) (mm_st M)) (hq0 : ∀ (M2 : fs_M), (mm_f3 M M2) → (mm_st M2 = ec_fix (mm_E M) (mm_st M)) → (mm_J M2) → (mm_Z M2) → (M2 124 17 = (ec_k (mm_E M) (mm_st M) : Nat)) → Q none M2) : fs_W (d + 6) 199 0 [some (.inr (.ref 124))] [] M Q := by
  obtain ⟨hk1, hk2, hk3⟩ := ec_k_spec hk
  refine fs_r_nop (L1 := [some (.inr (.ref 124))]) (st1 := []) (M1 := (fs_up M 124 17 0)) (ob := [124 < fs_N ∧ fs_kd 124 = 6]) rfl rfl (fs_oc fs_ob124 trivial) ?_
  have loop5 : ∀ (n5 : Nat)  (M3 : fs_M) (j : Nat), (j ≤ ec_k (mm_E M) (mm_st M)) → (mm_f3 M M3) → (mm_st M3 = ec_it (mm_E M) (mm_st M) j) → (mm_J M3) → (mm_Z M3) → (M3 124 17 = (j : Nat)) → ((ec_k (mm_E M) (mm_st M) : Nat) : Int) - (j : Int) < (n5 : Int) → fs_W (d + 6) 199 5 [some (.inr (.ref 124))] [] M3 Q := by
    intro n5
    induction n5 with
    | zero =>
      intro M3 j i0 f0 s0 j0 z0 r0 hm5
      exfalso
      omega
    | succ n5 ih5 =>
      intro M3 j i0 f0 s0 j0 z0 r0 hm5
      refine fs_r_call (sta := false) (idx := 211) (as := [.inr (.ref 124)]) (rest := []) (L1 := [some (.inr (.ref 124))]) (st1 := [.inr (.ref 124)]) (M1 := M3) (ob := []) rfl rfl rfl trivial rfl rfl (Nat.le_of_ble_eq_true rfl) ⟨Or.inr (Nat.le_of_ble_eq_true rfl), Or.inr fs_ob124⟩ (by decide) ?_
      refine fs_m_goesOn (f0.I hI) (by assumption) (by assumption) (fun (v1 : fs_M) (g1 : mm_f2 M3 v1) (g2 : mm_st v1 = ec_next (mm_E M3) (mm_st M3)) (g3 : mm_J v1) (g4 : mm_Z v1) (g5 : ¬ mm_st v1 = mm_st M3) => ?_) (fun (v2 : fs_M) (g1 : mm_f2 M3 v2) (g2 : mm_st v2 = ec_next (mm_E M3) (mm_st M3)) (g3 : mm_J v2) (g4 : mm_Z v2) (g5 : mm_st v2 = mm_st M3) => ?_)
      · refine fs_r_if (a := 1) (L1 := [some (.inr (.ref 124))]) (st1 := []) (M1 := v1) (ob := []) rfl rfl trivial (fun h => absurd h (by decide : ¬ ((1 : Int) = 0))) (fun _ => ?_)
        have q9 := g1.2 17 (by decide) (by decide)
        have jl : j < ec_k (mm_E M) (mm_st M) := by
          rcases Nat.lt_or_ge j (ec_k (mm_E M) (mm_st M)) with q | q
          · exact q
          · exfalso
            apply g5
            rw [g2, f0.E, s0, show j = ec_k (mm_E M) (mm_st M) by omega]
            exact hk3
        refine fs_r_goto (L1 := [some (.inr (.ref 124))]) (st1 := []) (M1 := (fs_up v1 124 17 ((v1 124 17) + 1))) (ob := [124 < fs_N ∧ fs_kd 124 = 6, fs_rg ((v1 124 17) + 1), 124 < fs_N ∧ fs_kd 124 = 6]) rfl rfl (fs_oc fs_ob124 (fs_oc ⟨by omega, by omega⟩ (fs_oc fs_ob124 trivial))) ?_
        exact ih5 (fs_up v1 124 17 ((v1 124 17) + 1)) ((j + 1)) (by omega) ((f0.tr (mm_f3.of2 g1)).u17) (by rw [mm_u17.1, g2, f0.E, s0]; rfl) (mm_u17.2.1 g3) (mm_u17.2.2 g4) (by rw [fs_up_at, if_pos rfl, g1.2 17 (by decide) (by decide), r0]; rfl) (by omega)
      refine fs_r_if (a := 0) (L1 := [some (.inr (.ref 124))]) (st1 := []) (M1 := v2) (ob := []) rfl rfl trivial (fun _ => ?_) (fun h => absurd (by decide : (0 : Int) = 0) h)
      refine fs_r_ret (L1 := [some (.inr (.ref 124))]) (M1 := v2) (ob := []) rfl rfl trivial ?_
      have e9 : ec_it (mm_E M) (mm_st M) (j + 1) = ec_it (mm_E M) (mm_st M) j := by
        rw [← s0, ← g5, g2, f0.E, s0]
        rfl
      have e8 : j = ec_k (mm_E M) (mm_st M) := by
        rcases Nat.lt_or_ge j (ec_k (mm_E M) (mm_st M)) with q | q
        · exact absurd e9 (hk2 j q)
        · omega
      exact hq0 _ (f0.tr (mm_f3.of2 g1)) (by rw [g5, s0, e8]; rfl) g3 g4 (by rw [g1.2 17 (by decide) (by decide), r0, e8])
  exact loop5 (((((ec_k (mm_E M) (mm_st M) : Nat) : Int) - ((0) : Int)) : Int) + 1).toNat (fs_up M 124 17 0) (0) (Nat.zero_le _) (mm_f3.rf.u17) (mm_u17.1) (mm_u17.2.1 hJ) (mm_u17.2.2 hZ) (rfl) (by omega)
