/-! numbers -/
theorem TK.g {M : fs_M} {p : Int} (h : TK M p) (hp : 0 ≤ p) (z : M 124 12 = -1) : ¬ gl (M 128) (M 124 7) p := fun g => by
  have w := h.1
  rw [if_pos g] at w
  have b := (qB_b (M 128) (M 124 7) p).1
  omega
theorem TK.f {M : fs_M} {p : Int} (h : TK M p) (z : ¬ M 124 12 = -1) : gl (M 128) (M 124 7) p ∧ M 124 12 = qB (M 128) (M 124 7) p := by
  have w := h.1
  by_cases g : gl (M 128) (M 124 7) p
  · rw [if_pos g] at w
    exact ⟨g, w⟩
  · rw [if_neg g] at w
    exact absurd w z
theorem TK.d {M : fs_M} {p : Int} (h : TK M p) : M 124 9 = 2 ↔ xD (M 128) (M 124 7) (qB (M 128) (M 124 7) p) := by
  rcases h.2.2 with ⟨a, b, c⟩ | ⟨a, b, c⟩ | ⟨a, b, c⟩ | ⟨a, b, c, d, e⟩
  · exact ⟨fun z => by omega, fun z => by omega⟩
  · exact ⟨fun z => by omega, fun z => by omega⟩
  · exact ⟨fun _ => b, fun _ => a⟩
  · exact ⟨fun z => by omega, fun z => absurd z d⟩
theorem TK.v {M : fs_M} {p : Int} (h : TK M p) (z : M 124 9 = 2) : M 124 8 = nE (M 128) (M 124 7) p ∧ M 124 11 = if 4 < nE (M 128) (M 124 7) p - qB (M 128) (M 124 7) p then 100000 else nV (M 128) (M 124 7) p := by
  rcases h.2.2 with ⟨a, b, c⟩ | ⟨a, b, c⟩ | ⟨a, b, c⟩ | ⟨a, b, c, d, e⟩
  · omega
  · omega
  · exact c
  · omega
theorem TK.n {M : fs_M} {p lo hi : Int} (h : TK M p) (hp : 0 ≤ p) (z : M 124 12 = -1) (hh : hi ≤ 9999) : (M 124 9 = 2 ∧ lo ≤ M 124 11 ∧ M 124 11 ≤ hi) ↔ nOk (M 128) (M 124 7) lo hi p := by
  have g := h.g hp z
  constructor
  · rintro ⟨a, b, c⟩
    have v := h.v a
    by_cases y : 4 < nE (M 128) (M 124 7) p - qB (M 128) (M 124 7) p
    · rw [if_pos y] at v
      omega
    · rw [if_neg y] at v
      exact ⟨h.d.mp a, g, by omega, by rw [← v.2]; exact b, by rw [← v.2]; exact c⟩
  · rintro ⟨a, b, c, d, e⟩
    have t := h.d.mpr a
    have v := h.v t
    rw [if_neg (by omega)] at v
    exact ⟨t, by rw [v.2]; exact d, by rw [v.2]; exact e⟩
theorem TS.sk {M M2 : fs_M} {p f : Int} (h : TS M p f) (e : M2 124 = M 124) (t : M2 128 = M 128) : TS M2 p f := by
  unfold TS TK at *
  rw [e, t]
  exact h
theorem TS.ne {M M2 : fs_M} {p f : Int} (h : f ≠ -1) (e : M2 124 12 = f) : TS M2 p f := Or.inl ⟨h, e⟩
/-- the fault at hand -/
theorem TS.fz {M : fs_M} {p f : Int} (h : TS M p f) (z : M 124 12 = -1) : f = -1 ∧ TK M p := by
  rcases h with ⟨a, b⟩ | ⟨a, b⟩
  · omega
  · exact ⟨a, b⟩
theorem fs_m_number {d : Nat} {M : fs_M} {Q : Option fs_V → fs_M → Prop} {lo : Int} {hi : Int} {p f : Int} (hT : TS M p f) (hp : (0 ≤ p ∧ p ≤ M 124 7) ∧ M 124 7 ≤ 800) (hh : hi ≤ 9999) (hq0 : ∀ (x : Int) (M2 : fs_M), (sk M M2) → (TS M2 (nE (M 128) (M 124 7) p) (nF (M 128) (M 124 7) lo hi f p)) → (nF (M 128) (M 124 7) lo hi f p = -1 → x = nV (M 128) (M 124 7) p) → Q (some (.inl x)) M2) : fs_W (d + 3) 178 0 [some (.inr (.ref 124)), some (.inl lo), some (.inl hi), none] [] M Q := by
  have qb := qB_b (M 128) (M 124 7) p
  have qn := qb.2.1 hp.1.2
  have eb := nE_b (T := M 128) (n := M 124 7) hp.1
  refine fs_r_icmp (a := (M 124 12)) (y := (-1)) (L1 := [some (.inr (.ref 124)), some (.inl lo), some (.inl hi), none]) (st1 := []) (M1 := M) (ob := [124 < fs_N ∧ fs_kd 124 = 6]) rfl rfl (fs_oc fs_ob124 trivial) (fun (h1 : ¬ (M 124 12) = (-1)) => ?_) (fun (h1 : ¬ (¬ (M 124 12) = (-1))) => ?_)
  · refine fs_r_icmp (a := (M 124 12)) (y := (-1)) (L1 := [some (.inr (.ref 124)), some (.inl lo), some (.inl hi), none]) (st1 := []) (M1 := M) (ob := [124 < fs_N ∧ fs_kd 124 = 6]) rfl rfl (fs_oc fs_ob124 trivial) (fun (h2 : (M 124 12) = (-1)) => absurd h2 (by omega)) (fun (h2 : ¬ ((M 124 12) = (-1))) => ?_)
    refine fs_r_iret (a := 0) (L1 := [some (.inr (.ref 124)), some (.inl lo), some (.inl hi), none]) (M1 := M) (ob := []) rfl rfl trivial (Or.inl rfl) ?_
    first
      | (exfalso; omega)
      | (have fe : nF (M 128) (M 124 7) lo hi f p = M 124 12 := by
           rcases hT with ⟨a, b⟩ | ⟨a, b⟩
           · rw [nF_ne a, b]
           · have w := b.f (by omega)
             unfold nF
             rw [if_pos a, if_neg (fun y => y.2.1 w.1), w.2]
         exact hq0 _ _ sk.rf (Or.inl ⟨by omega, fe.symm⟩) (fun z => by omega))
      | (have z0 : M 124 12 = -1 := by omega
         obtain ⟨a, b⟩ := hT.fz z0
         have no : ¬ nOk (M 128) (M 124 7) lo hi p := fun y => by
           have w := (b.n hp.1.1 z0 hh).mpr y
           omega
         have fe : nF (M 128) (M 124 7) lo hi f p = qB (M 128) (M 124 7) p := by
           unfold nF
           rw [if_pos a, if_neg no]
         refine hq0 _ _ (sk.rf.up (by omega)) (Or.inl ⟨by omega, ?_⟩) (fun z => by omega)
         rw [fs_up_at, if_pos rfl, if_pos z0, fe]
         exact b.2.1)
  refine fs_r_icmp (a := (M 124 9)) (y := 2) (L1 := [some (.inr (.ref 124)), some (.inl lo), some (.inl hi), none]) (st1 := []) (M1 := M) (ob := [124 < fs_N ∧ fs_kd 124 = 6]) rfl rfl (fs_oc fs_ob124 trivial) (fun (h3 : ¬ (M 124 9) = 2) => ?_) (fun (h3 : ¬ (¬ (M 124 9) = 2)) => ?_)
  · refine fs_r_call (sta := false) (idx := 101) (as := [.inr (.ref 124), .inl (M 124 10)]) (rest := []) (L1 := [some (.inr (.ref 124)), some (.inl lo), some (.inl hi), none]) (st1 := [.inl (M 124 10), .inr (.ref 124)]) (M1 := M) (ob := [124 < fs_N ∧ fs_kd 124 = 6]) rfl rfl rfl (fs_oc fs_ob124 trivial) rfl rfl (Nat.le_of_ble_eq_true rfl) ⟨Or.inr (Nat.le_of_ble_eq_true rfl), Or.inr fs_ob124⟩ (by decide) ?_
    refine fs_m_wrong ?_
    refine fs_r_icmp (a := ((fs_up M 124 12 (if M 124 12 = -1 then (M 124 10) else M 124 12)) 124 12)) (y := (-1)) (L1 := [some (.inr (.ref 124)), some (.inl lo), some (.inl hi), none]) (st1 := []) (M1 := (fs_up M 124 12 (if M 124 12 = -1 then (M 124 10) else M 124 12))) (ob := [124 < fs_N ∧ fs_kd 124 = 6]) rfl rfl (fs_oc fs_ob124 trivial) (fun (h4 : ((fs_up M 124 12 (if M 124 12 = -1 then (M 124 10) else M 124 12)) 124 12) = (-1)) => absurd h4 (by have z0 : M 124 12 = -1 := (by omega); have w := (hT.fz z0).2.2.1; rw [fs_up_at, if_pos rfl, if_pos z0, w]; omega)) (fun (h4 : ¬ (((fs_up M 124 12 (if M 124 12 = -1 then (M 124 10) else M 124 12)) 124 12) = (-1))) => ?_)
    refine fs_r_iret (a := 0) (L1 := [some (.inr (.ref 124)), some (.inl lo), some (.inl hi), none]) (M1 := (fs_up M 124 12 (if M 124 12 = -1 then (M 124 10) else M 124 12))) (ob := []) rfl rfl trivial (Or.inl rfl) ?_
    first
      | (exfalso; omega)
      | (have fe : nF (M 128) (M 124 7) lo hi f p = M 124 12 := by
           rcases hT with ⟨a, b⟩ | ⟨a, b⟩
           · rw [nF_ne a, b]
           · have w := b.f (by omega)
             unfold nF
             rw [if_pos a, if_neg (fun y => y.2.1 w.1), w.2]
         exact hq0 _ _ sk.rf (Or.inl ⟨by omega, fe.symm⟩) (fun z => by omega))
      | (have z0 : M 124 12 = -1 := by omega
         obtain ⟨a, b⟩ := hT.fz z0
         have no : ¬ nOk (M 128) (M 124 7) lo hi p := fun y => by
           have w := (b.n hp.1.1 z0 hh).mpr y
           omega
         have fe : nF (M 128) (M 124 7) lo hi f p = qB (M 128) (M 124 7) p := by
           unfold nF
           rw [if_pos a, if_neg no]
         refine hq0 _ _ (sk.rf.up (by omega)) (Or.inl ⟨by omega, ?_⟩) (fun z => by omega)
         rw [fs_up_at, if_pos rfl, if_pos z0, fe]
         exact b.2.1)
  refine fs_r_call (sta := true) (idx := 68) (as := [.inl (M 124 11), .inl lo, .inl hi]) (rest := []) (L1 := [some (.inr (.ref 124)), some (.inl lo), some (.inl hi), none]) (st1 := [.inl hi, .inl lo, .inl (M 124 11)]) (M1 := M) (ob := [124 < fs_N ∧ fs_kd 124 = 6]) rfl rfl rfl (fs_oc fs_ob124 trivial) rfl rfl (Nat.le_of_ble_eq_true rfl) ⟨Or.inr (Nat.le_of_ble_eq_true rfl), trivial⟩ (by decide) ?_
  refine fs_m_isIn (fun (ci : lo ≤ (M 124 11) ∧ (M 124 11) ≤ hi) => ?_) (fun (ci : ¬ (lo ≤ (M 124 11) ∧ (M 124 11) ≤ hi)) => ?_)
  · refine fs_r_if (a := 1) (L1 := [some (.inr (.ref 124)), some (.inl lo), some (.inl hi), none]) (st1 := []) (M1 := M) (ob := []) rfl rfl trivial (fun _ => ?_) (fun h => absurd (by decide : ¬ (1 : Int) = 0) h)
    refine fs_r_icmp (a := (M 124 12)) (y := (-1)) (L1 := [some (.inr (.ref 124)), some (.inl lo), some (.inl hi), none]) (st1 := []) (M1 := M) (ob := [124 < fs_N ∧ fs_kd 124 = 6]) rfl rfl (fs_oc fs_ob124 trivial) (fun (h5 : (M 124 12) = (-1)) => ?_) (fun (h5 : ¬ ((M 124 12) = (-1))) => absurd (by omega) h5)
    have z0 : M 124 12 = -1 := by omega
    have tk := (hT.fz z0).2
    have ok : nOk (M 128) (M 124 7) lo hi p := (tk.n hp.1.1 z0 hh).mp (by omega)
    have v8 := tk.v (tk.d.mpr ok.1)
    refine fs_r_call (sta := false) (idx := 113) (as := [.inr (.ref 124)]) (rest := []) (L1 := [some (.inr (.ref 124)), some (.inl lo), some (.inl hi), some (.inl (M 124 11))]) (st1 := [.inr (.ref 124)]) (M1 := M) (ob := [124 < fs_N ∧ fs_kd 124 = 6, 3 < 4]) rfl rfl rfl (fs_oc fs_ob124 (fs_oc (by decide) trivial)) rfl rfl (Nat.le_of_ble_eq_true rfl) ⟨Or.inr (Nat.le_of_ble_eq_true rfl), Or.inr fs_ob124⟩ (by decide) ?_
    refine fs_m_nextToken (by rw [v8.1]; omega) (fun (B : fs_M) (bf : sk M B) (bs : TS B (M 124 8) (M 124 12)) => ?_)
    refine fs_r_iret (a := (M 124 11)) (L1 := [some (.inr (.ref 124)), some (.inl lo), some (.inl hi), some (.inl (M 124 11))]) (M1 := B) (ob := []) rfl rfl trivial (Or.inl rfl) ?_
    have fe : nF (M 128) (M 124 7) lo hi f p = -1 := by
      unfold nF
      rw [if_pos (hT.fz z0).1, if_pos ok]
    rw [v8.1, z0] at bs
    refine hq0 _ _ bf (by rw [fe]; exact bs) (fun _ => ?_)
    rw [v8.2, if_neg (by have w := ok.2.2.1; omega)]
  refine fs_r_if (a := 0) (L1 := [some (.inr (.ref 124)), some (.inl lo), some (.inl hi), none]) (st1 := []) (M1 := M) (ob := []) rfl rfl trivial (fun h => absurd h (by decide : ¬ (¬ (0 : Int) = 0))) (fun _ => ?_)
  refine fs_r_call (sta := false) (idx := 101) (as := [.inr (.ref 124), .inl (M 124 10)]) (rest := []) (L1 := [some (.inr (.ref 124)), some (.inl lo), some (.inl hi), none]) (st1 := [.inl (M 124 10), .inr (.ref 124)]) (M1 := M) (ob := [124 < fs_N ∧ fs_kd 124 = 6]) rfl rfl rfl (fs_oc fs_ob124 trivial) rfl rfl (Nat.le_of_ble_eq_true rfl) ⟨Or.inr (Nat.le_of_ble_eq_true rfl), Or.inr fs_ob124⟩ (by decide) ?_
  refine fs_m_wrong ?_
  refine fs_r_icmp (a := ((fs_up M 124 12 (if M 124 12 = -1 then (M 124 10) else M 124 12)) 124 12)) (y := (-1)) (L1 := [some (.inr (.ref 124)), some (.inl lo), some (.inl hi), none]) (st1 := []) (M1 := (fs_up M 124 12 (if M 124 12 = -1 then (M 124 10) else M 124 12))) (ob := [124 < fs_N ∧ fs_kd 124 = 6]) rfl rfl (fs_oc fs_ob124 trivial) (fun (h6 : ((fs_up M 124 12 (if M 124 12 = -1 then (M 124 10) else M 124 12)) 124 12) = (-1)) => absurd h6 (by have z0 : M 124 12 = -1 := (by omega); have w := (hT.fz z0).2.2.1; rw [fs_up_at, if_pos rfl, if_pos z0, w]; omega)) (fun (h6 : ¬ (((fs_up M 124 12 (if M 124 12 = -1 then (M 124 10) else M 124 12)) 124 12) = (-1))) => ?_)
  refine fs_r_iret (a := 0) (L1 := [some (.inr (.ref 124)), some (.inl lo), some (.inl hi), none]) (M1 := (fs_up M 124 12 (if M 124 12 = -1 then (M 124 10) else M 124 12))) (ob := []) rfl rfl trivial (Or.inl rfl) ?_
  first
    | (exfalso; omega)
    | (have fe : nF (M 128) (M 124 7) lo hi f p = M 124 12 := by
         rcases hT with ⟨a, b⟩ | ⟨a, b⟩
         · rw [nF_ne a, b]
         · have w := b.f (by omega)
           unfold nF
           rw [if_pos a, if_neg (fun y => y.2.1 w.1), w.2]
       exact hq0 _ _ sk.rf (Or.inl ⟨by omega, fe.symm⟩) (fun z => by omega))
    | (have z0 : M 124 12 = -1 := by omega
       obtain ⟨a, b⟩ := hT.fz z0
       have no : ¬ nOk (M 128) (M 124 7) lo hi p := fun y => by
         have w := (b.n hp.1.1 z0 hh).mpr y
         omega
       have fe : nF (M 128) (M 124 7) lo hi f p = qB (M 128) (M 124 7) p := by
         unfold nF
         rw [if_pos a, if_neg no]
       refine hq0 _ _ (sk.rf.up (by omega)) (Or.inl ⟨by omega, ?_⟩) (fun z => by omega)
       rw [fs_up_at, if_pos rfl, if_pos z0, fe]
       exact b.2.1)
