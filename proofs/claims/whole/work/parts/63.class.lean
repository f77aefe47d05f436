theorem aa_s {N g : Int → Int} {v h : Int} (h0 : 0 ≤ h) : aa_m N g v (h + 1).toNat = (if h = 0 ∨ gv_l N (gv_p g h v) < aa_m N g v h.toNat then gv_l N (gv_p g h v) else aa_m N g v h.toNat) ∧ aa_b N g v (h + 1).toNat = (if h = 0 ∨ gv_l N (gv_p g h v) < aa_m N g v h.toNat then h else aa_b N g v h.toNat) := by
  obtain ⟨n, rfl⟩ := Int.eq_ofNat_of_zero_le h0
  refine ⟨?_, ?_⟩
  · show (if n = 0 ∨ _ then _ else _) = (if ((n : Nat) : Int) = 0 ∨ _ then _ else _)
    by_cases z : n = 0
    · rw [if_pos (Or.inl z), if_pos (Or.inl (by omega))]
    · simp only [z, false_or, show ¬ ((n : Nat) : Int) = 0 by omega]
      rfl
  · show (if n = 0 ∨ _ then _ else _) = (if ((n : Nat) : Int) = 0 ∨ _ then _ else _)
    by_cases z : n = 0
    · rw [if_pos (Or.inl z), if_pos (Or.inl (by omega))]
    · simp only [z, false_or, show ¬ ((n : Nat) : Int) = 0 by omega]
      rfl
theorem fs_c_bestHouseFor {d : Nat} {M : fs_M} {Q : Option fs_V → fs_M → Prop} {c : Int} {N g : Int → Int} (h1 : M 5 1 = N 1) (hN : fs_NI N) (he : ec_eq (mk M) (ec_gv (ec_pl N) g)) (hg : gv_k g) (hc : 0 ≤ c ∧ ∀ q, 0 ≤ q → q < 6 → g q + c ≤ 9999) (hp : 0 < N 1) (hq0 : ∀ (M2 : fs_M), (mk_f M M2) → Q (some (.inl (aa_b N g c (N 1).toNat))) M2) : fs_W (d + 6) 157 0 [some (.inr (.ref 0)), some (.inl c), none, none, none, none] [] M Q := by
  have hb := hN.2.1
  have hc0 := hc.2 0 (by omega) (by omega)
  have as0 := aa_s (N := N) (g := g) (v := c) (h := 0) (by omega)
  rw [if_pos (Or.inl rfl), if_pos (Or.inl rfl)] at as0
  refine fs_r_call (sta := false) (idx := 328) (as := [.inr (.ref 0), .inl 0, .inl c]) (rest := []) (L1 := [some (.inr (.ref 0)), some (.inl c), some (.inl 0), none, none, none]) (st1 := [.inl c, .inl 0, .inr (.ref 0)]) (M1 := M) (ob := [2 < 6]) rfl rfl rfl (fs_oc (by decide) trivial) rfl rfl (Nat.le_of_ble_eq_true rfl) ⟨Or.inr (Nat.le_of_ble_eq_true rfl), Or.inr fs_ob0⟩ (by decide) ?_
  refine fs_c_lostWith (N := N) (g := g) (by assumption) (he) (by assumption) (by omega) (by omega) (fun (V : fs_M) (f1 : mk_f M V) => ?_)
  refine fs_r_nop (L1 := [some (.inr (.ref 0)), some (.inl c), some (.inl 0), some (.inl (gv_l N (gv_p g 0 c))), some (.inl 1), none]) (st1 := []) (M1 := V) (ob := [3 < 6, 4 < 6]) rfl rfl (fs_oc (by decide) (fs_oc (by decide) trivial)) ?_
  have loop12 : ∀ (n12 : Nat) (b : Int) (m : Int) (h : Int) (zl5 : Option fs_V) (M3 : fs_M), (1 ≤ h ∧ h ≤ N 1) → (mk_f M M3) → (b = aa_b N g c h.toNat) → (m = aa_m N g c h.toNat) → N 1 - h < (n12 : Int) → fs_W (d + 6) 157 12 [some (.inr (.ref 0)), some (.inl c), some (.inl b), some (.inl m), some (.inl h), zl5] [] M3 Q := by
    intro n12
    induction n12 with
    | zero =>
      intro b m h zl5 M3 i0 f3 b0 m0 hm12
      exfalso
      omega
    | succ n12 ih12 =>
      intro b m h zl5 M3 i0 f3 b0 m0 hm12
      have e5 := congrFun (f3 5 (by decide) (by omega)) 1
      refine fs_r_icmp (a := h) (y := (M3 5 1)) (L1 := [some (.inr (.ref 0)), some (.inl c), some (.inl b), some (.inl m), some (.inl h), zl5]) (st1 := []) (M1 := M3) (ob := [0 < fs_N ∧ fs_kd 0 = 5, 5 < fs_N ∧ fs_kd 5 = 0]) rfl rfl (fs_oc fs_ob0 (fs_oc fs_ob5 trivial)) (fun (h1 : (M3 5 1) ≤ h) => ?_) (fun (h1 : ¬ ((M3 5 1) ≤ h)) => ?_)
      · refine fs_r_iret (a := b) (L1 := [some (.inr (.ref 0)), some (.inl c), some (.inl b), some (.inl m), some (.inl h), zl5]) (M1 := M3) (ob := []) rfl rfl trivial (Or.inl rfl) ?_
        exact fs_qi (by rw [b0, show h = N 1 by omega]) (hq0 _ f3)
      have hch := hc.2 h (by omega) (by omega)
      have as := aa_s (N := N) (g := g) (v := c) (h := h) (by omega)
      refine fs_r_call (sta := false) (idx := 328) (as := [.inr (.ref 0), .inl h, .inl c]) (rest := []) (L1 := [some (.inr (.ref 0)), some (.inl c), some (.inl b), some (.inl m), some (.inl h), zl5]) (st1 := [.inl c, .inl h, .inr (.ref 0)]) (M1 := M3) (ob := []) rfl rfl rfl trivial rfl rfl (Nat.le_of_ble_eq_true rfl) ⟨Or.inr (Nat.le_of_ble_eq_true rfl), Or.inr fs_ob0⟩ (by decide) ?_
      refine fs_c_lostWith (N := N) (g := g) (by assumption) (by rw [f3.E]; exact he) (by assumption) (by omega) (by omega) (fun (V2 : fs_M) (f2 : mk_f M3 V2) => ?_)
      refine fs_r_icmp (a := (gv_l N (gv_p g h c))) (y := m) (L1 := [some (.inr (.ref 0)), some (.inl c), some (.inl b), some (.inl m), some (.inl h), some (.inl (gv_l N (gv_p g h c)))]) (st1 := []) (M1 := V2) (ob := [5 < 6]) rfl rfl (fs_oc (by decide) trivial) (fun (h2 : m ≤ (gv_l N (gv_p g h c))) => ?_) (fun (h2 : ¬ (m ≤ (gv_l N (gv_p g h c)))) => ?_)
      · refine fs_r_goto (L1 := [some (.inr (.ref 0)), some (.inl c), some (.inl b), some (.inl m), some (.inl (h + 1)), some (.inl (gv_l N (gv_p g h c)))]) (st1 := []) (M1 := V2) (ob := [fs_rg (h + 1)]) rfl rfl (fs_oc ⟨by omega, by omega⟩ trivial) ?_
        exact ih12 (b) (m) ((h + 1)) (some (.inl (gv_l N (gv_p g h c)))) V2 (by omega) (f3.tr f2) (by rw [as.2, ← m0]; first | (rw [if_pos (by omega)]; done) | (rw [if_neg (by omega)]; exact b0)) (by rw [as.1, ← m0]; first | (rw [if_pos (by omega)]; done) | (rw [if_neg (by omega)])) (by omega)
      refine fs_r_nop (L1 := [some (.inr (.ref 0)), some (.inl c), some (.inl h), some (.inl (gv_l N (gv_p g h c))), some (.inl h), some (.inl (gv_l N (gv_p g h c)))]) (st1 := []) (M1 := V2) (ob := [3 < 6, 2 < 6]) rfl rfl (fs_oc (by decide) (fs_oc (by decide) trivial)) ?_
      refine fs_r_goto (L1 := [some (.inr (.ref 0)), some (.inl c), some (.inl h), some (.inl (gv_l N (gv_p g h c))), some (.inl (h + 1)), some (.inl (gv_l N (gv_p g h c)))]) (st1 := []) (M1 := V2) (ob := [fs_rg (h + 1)]) rfl rfl (fs_oc ⟨by omega, by omega⟩ trivial) ?_
      exact ih12 (h) ((gv_l N (gv_p g h c))) ((h + 1)) (some (.inl (gv_l N (gv_p g h c)))) V2 (by omega) (f3.tr f2) (by rw [as.2, ← m0]; first | (rw [if_pos (by omega)]; done) | (rw [if_neg (by omega)]; exact b0)) (by rw [as.1, ← m0]; first | (rw [if_pos (by omega)]; done) | (rw [if_neg (by omega)])) (by omega)
  exact loop12 (((N 1 - (1)) : Int) + 1).toNat (0) ((gv_l N (gv_p g 0 c))) (1) (none) V (by omega) (f1) (as0.2.symm) (as0.1.symm) (by omega)

/-- the least that is lost is that by the best house -/
theorem aa_mb {N g : Int → Int} {v : Int} : ∀ n : Nat, 0 < n → aa_m N g v n = gv_l N (gv_p g (aa_b N g v n) v)
  | 0, h => by omega
  | n + 1, _ => by
    show (if n = 0 ∨ gv_l N (gv_p g n v) < aa_m N g v n then gv_l N (gv_p g n v) else aa_m N g v n) = gv_l N (gv_p g (if n = 0 ∨ gv_l N (gv_p g n v) < aa_m N g v n then (n : Int) else aa_b N g v n) v)
    by_cases z : n = 0 ∨ gv_l N (gv_p g n v) < aa_m N g v n
    · rw [if_pos z, if_pos z]
    · rw [if_neg z, if_neg z]
      exact aa_mb n (by omega)
theorem fs_c_helper {d : Nat} {M : fs_M} {Q : Option fs_V → fs_M → Prop} {c : Int} {w : Int} {N : Int → Int} (hV : vw 5 M N) (hN : fs_NI N) (hq0 : ∀ (M2 : fs_M), (cq M M2) → Q (some (.inl (rq_helper N c w))) M2) : fs_W (d + 7) 114 0 [some (.inr (.ref 0)), some (.inl c), some (.inl w), none] [] M Q := by
  obtain ⟨v0, v1, vcv, vfc, vhd, vln, vlc, vit⟩ := vw5 hV
  obtain ⟨⟨hA0, hA1⟩, ⟨hH0, hH1⟩, hcv, hfc, hhd, hln, hsh, hit, hst⟩ := id hN
  refine fs_r_call (sta := true) (idx := 131) (as := [.inl c, .inl 0, .inl 9999]) (rest := []) (L1 := [some (.inr (.ref 0)), some (.inl c), some (.inl w), none]) (st1 := [.inl 9999, .inl 0, .inl c]) (M1 := M) (ob := []) rfl rfl rfl trivial rfl rfl (Nat.le_of_ble_eq_true rfl) ⟨Or.inr (Nat.le_of_ble_eq_true rfl), trivial⟩ (by decide) ?_
  refine fs_c_isWithin (fun (f1 : 0 ≤ c ∧ c ≤ 9999) => ?_) (fun (f2 : ¬ (0 ≤ c ∧ c ≤ 9999)) => ?_)
  · refine fs_r_if (a := 1) (L1 := [some (.inr (.ref 0)), some (.inl c), some (.inl w), none]) (st1 := []) (M1 := M) (ob := []) rfl rfl trivial (fun h => absurd h (by decide : ¬ ((1 : Int) = 0))) (fun _ => ?_)
    refine fs_r_call (sta := true) (idx := 131) (as := [.inl w, .inl 0, .inl 1]) (rest := []) (L1 := [some (.inr (.ref 0)), some (.inl c), some (.inl w), none]) (st1 := [.inl 1, .inl 0, .inl w]) (M1 := M) (ob := []) rfl rfl rfl trivial rfl rfl (Nat.le_of_ble_eq_true rfl) ⟨Or.inr (Nat.le_of_ble_eq_true rfl), trivial⟩ (by decide) ?_
    refine fs_c_isWithin (fun (f3 : 0 ≤ w ∧ w ≤ 1) => ?_) (fun (f4 : ¬ (0 ≤ w ∧ w ≤ 1)) => ?_)
    · refine fs_r_if (a := 1) (L1 := [some (.inr (.ref 0)), some (.inl c), some (.inl w), none]) (st1 := []) (M1 := M) (ob := []) rfl rfl trivial (fun _ => ?_) (fun h => absurd (by decide : ¬ (1 : Int) = 0) h)
      refine fs_r_if (a := (M 5 1)) (L1 := [some (.inr (.ref 0)), some (.inl c), some (.inl w), none]) (st1 := []) (M1 := M) (ob := [0 < fs_N ∧ fs_kd 0 = 5, 5 < fs_N ∧ fs_kd 5 = 0]) rfl rfl (fs_oc fs_ob0 (fs_oc fs_ob5 trivial)) (fun (h5 : ¬ (M 5 1) = 0) => ?_) (fun (h5 : ¬ (¬ (M 5 1) = 0)) => ?_)
      · refine fs_r_call (sta := false) (idx := 322) (as := [.inr (.ref 20), .inr (.ref 5)]) (rest := []) (L1 := [some (.inr (.ref 0)), some (.inl c), some (.inl w), none]) (st1 := [.inr (.ref 5), .inr (.ref 20)]) (M1 := M) (ob := [0 < fs_N ∧ fs_kd 0 = 5, 0 < fs_N ∧ fs_kd 0 = 5]) rfl rfl rfl (fs_oc fs_ob0 (fs_oc fs_ob0 trivial)) rfl rfl (Nat.le_of_ble_eq_true rfl) ⟨Or.inr (Nat.le_of_ble_eq_true rfl), Or.inr fs_ob20⟩ (by decide) ?_
        refine fs_c_load (N := N) (by assumption) (by assumption) (fun (V1 : fs_M) (l1 : ∀ r, (r < 20 ∨ 31 < r) → V1 r = M r) (l2 : ec_eq (mk V1) (ec_pl N)) (l3 : ∀ q, 0 ≤ q → q < 4 → V1 25 q = if q < N 0 then mm_held N q else 0) => ?_)
        refine fs_r_call (sta := false) (idx := 325) (as := [.inr (.ref 0), .inl c]) (rest := []) (L1 := [some (.inr (.ref 0)), some (.inl c), some (.inl w), none]) (st1 := [.inl c, .inr (.ref 0)]) (M1 := V1) (ob := []) rfl rfl rfl trivial rfl rfl (Nat.le_of_ble_eq_true rfl) ⟨Or.inr (Nat.le_of_ble_eq_true rfl), Or.inr fs_ob0⟩ (by decide) ?_
        refine fs_c_bestHouseFor (N := N) (g := (fun _ => 0)) (by have := congrFun (l1 5 (by decide)) 1; omega) (by assumption) (gv_pl l2) (fun _ _ _ => ⟨(by decide : (0 : Int) ≤ 0), (by decide : (0 : Int) ≤ 9999)⟩) (⟨by omega, fun _ _ _ => by show (0 : Int) + c ≤ 9999; omega⟩) (by omega) (fun (V2 : fs_M) (f2 : mk_f V1 V2) => ?_)
        have ab := (aa_b_b (N := N) (g := fun _ => 0) (v := c) (N 1).toNat).2 (by omega)
        refine fs_r_if (a := w) (L1 := [some (.inr (.ref 0)), some (.inl c), some (.inl w), some (.inl (aa_b N (fun _ => 0) c (N 1).toNat))]) (st1 := []) (M1 := V2) (ob := [3 < 4]) rfl rfl (fs_oc (by decide) trivial) (fun (h6 : ¬ w = 0) => ?_) (fun (h6 : ¬ (¬ w = 0)) => ?_)
        · refine fs_r_call (sta := false) (idx := 328) (as := [.inr (.ref 0), .inl (aa_b N (fun _ => 0) c (N 1).toNat), .inl c]) (rest := []) (L1 := [some (.inr (.ref 0)), some (.inl c), some (.inl w), some (.inl (aa_b N (fun _ => 0) c (N 1).toNat))]) (st1 := [.inl c, .inl (aa_b N (fun _ => 0) c (N 1).toNat), .inr (.ref 0)]) (M1 := V2) (ob := []) rfl rfl rfl trivial rfl rfl (Nat.le_of_ble_eq_true rfl) ⟨Or.inr (Nat.le_of_ble_eq_true rfl), Or.inr fs_ob0⟩ (by decide) ?_
          refine fs_c_lostWith (N := N) (g := (fun _ => 0)) (by assumption) (by rw [f2.E]; exact gv_pl l2) (fun _ _ _ => ⟨(by decide : (0 : Int) ≤ 0), (by decide : (0 : Int) ≤ 9999)⟩) (by omega) (by show 0 ≤ c ∧ (0 : Int) + c ≤ 9999; omega) (fun (V3 : fs_M) (f3 : mk_f V2 V3) => ?_)
          refine fs_r_iret (a := (gv_l N (gv_p (fun _ => 0) (aa_b N (fun _ => 0) c (N 1).toNat) c))) (L1 := [some (.inr (.ref 0)), some (.inl c), some (.inl w), some (.inl (aa_b N (fun _ => 0) c (N 1).toNat))]) (M1 := V3) (ob := []) rfl rfl trivial (Or.inl rfl) ?_
          first
            | exact fs_qi (by unfold rq_helper; rw [if_pos (by omega), if_pos (by omega)]) (hq0 _ ((cq.ld l1).tr (cq.f f2)))
            | exact fs_qi (by unfold rq_helper; rw [if_pos (by omega), if_neg (by omega)]; exact (aa_mb _ (by omega)).symm) (hq0 _ ((cq.ld l1).tr (cq.f (f2.tr f3))))
        refine fs_r_goto (L1 := [some (.inr (.ref 0)), some (.inl c), some (.inl w), some (.inl (aa_b N (fun _ => 0) c (N 1).toNat))]) (st1 := [.inl (aa_b N (fun _ => 0) c (N 1).toNat)]) (M1 := V2) (ob := []) rfl rfl trivial ?_
        refine fs_r_iret (a := (aa_b N (fun _ => 0) c (N 1).toNat)) (L1 := [some (.inr (.ref 0)), some (.inl c), some (.inl w), some (.inl (aa_b N (fun _ => 0) c (N 1).toNat))]) (M1 := V2) (ob := []) rfl rfl trivial (Or.inl rfl) ?_
        first
          | exact fs_qi (by unfold rq_helper; rw [if_pos (by omega), if_pos (by omega)]) (hq0 _ ((cq.ld l1).tr (cq.f f2)))
          | exact fs_qi (by unfold rq_helper; rw [if_pos (by omega), if_neg (by omega)]; exact (aa_mb _ (by omega)).symm) (hq0 _ ((cq.ld l1).tr (cq.f (f2.tr f3))))
      refine fs_r_iret (a := (-2)) (L1 := [some (.inr (.ref 0)), some (.inl c), some (.inl w), none]) (M1 := M) (ob := []) rfl rfl trivial (Or.inl rfl) ?_
      exact fs_qi (by unfold rq_helper; rw [if_pos (by omega), if_pos (by omega), show (N 1).toNat = 0 by omega]; rfl) (hq0 _ cq.rf)
    refine fs_r_if (a := 0) (L1 := [some (.inr (.ref 0)), some (.inl c), some (.inl w), none]) (st1 := []) (M1 := M) (ob := []) rfl rfl trivial (fun h => absurd h (by decide : ¬ (¬ (0 : Int) = 0))) (fun _ => ?_)
    refine fs_r_iret (a := (-1)) (L1 := [some (.inr (.ref 0)), some (.inl c), some (.inl w), none]) (M1 := M) (ob := []) rfl rfl trivial (Or.inl rfl) ?_
    exact fs_qi (by unfold rq_helper; rw [if_neg (by omega)]) (hq0 _ cq.rf)
  refine fs_r_if (a := 0) (L1 := [some (.inr (.ref 0)), some (.inl c), some (.inl w), none]) (st1 := []) (M1 := M) (ob := []) rfl rfl trivial (fun _ => ?_) (fun h => absurd (by decide : (0 : Int) = 0) h)
  refine fs_r_iret (a := (-1)) (L1 := [some (.inr (.ref 0)), some (.inl c), some (.inl w), none]) (M1 := M) (ob := []) rfl rfl trivial (Or.inl rfl) ?_
  exact fs_qi (by unfold rq_helper; rw [if_neg (by omega)]) (hq0 _ cq.rf)

theorem fs_c_aid {d : Nat} {M : fs_M} {Q : Option fs_V → fs_M → Prop} {n : Int} {v : Int} {h : Int} {N : Int → Int} (hV : vw 5 M N) (hN : fs_NI N) (hq0 : ∀ (M2 : fs_M), (cq M M2) → Q (some (.inl (rq_aid N n v h))) M2) : fs_W (d + 7) 116 0 [some (.inr (.ref 0)), some (.inl n), some (.inl v), some (.inl h), none, none] [] M Q := by
  obtain ⟨v0, v1, vcv, vfc, vhd, vln, vlc, vit⟩ := vw5 hV
  obtain ⟨⟨hA0, hA1⟩, ⟨hH0, hH1⟩, hcv, hfc, hhd, hln, hsh, hit, hst⟩ := id hN
  refine fs_r_call (sta := true) (idx := 131) (as := [.inl n, .inl 0, .inl 6]) (rest := []) (L1 := [some (.inr (.ref 0)), some (.inl n), some (.inl v), some (.inl h), none, none]) (st1 := [.inl 6, .inl 0, .inl n]) (M1 := M) (ob := []) rfl rfl rfl trivial rfl rfl (Nat.le_of_ble_eq_true rfl) ⟨Or.inr (Nat.le_of_ble_eq_true rfl), trivial⟩ (by decide) ?_
  refine fs_c_isWithin (fun (f1 : 0 ≤ n ∧ n ≤ 6) => ?_) (fun (f2 : ¬ (0 ≤ n ∧ n ≤ 6)) => ?_)
  · refine fs_r_if (a := 1) (L1 := [some (.inr (.ref 0)), some (.inl n), some (.inl v), some (.inl h), none, none]) (st1 := []) (M1 := M) (ob := []) rfl rfl trivial (fun h => absurd h (by decide : ¬ ((1 : Int) = 0))) (fun _ => ?_)
    refine fs_r_call (sta := true) (idx := 131) (as := [.inl v, .inl 1, .inl 999]) (rest := []) (L1 := [some (.inr (.ref 0)), some (.inl n), some (.inl v), some (.inl h), none, none]) (st1 := [.inl 999, .inl 1, .inl v]) (M1 := M) (ob := []) rfl rfl rfl trivial rfl rfl (Nat.le_of_ble_eq_true rfl) ⟨Or.inr (Nat.le_of_ble_eq_true rfl), trivial⟩ (by decide) ?_
    refine fs_c_isWithin (fun (f3 : 1 ≤ v ∧ v ≤ 999) => ?_) (fun (f4 : ¬ (1 ≤ v ∧ v ≤ 999)) => ?_)
    · refine fs_r_if (a := 1) (L1 := [some (.inr (.ref 0)), some (.inl n), some (.inl v), some (.inl h), none, none]) (st1 := []) (M1 := M) (ob := []) rfl rfl trivial (fun h => absurd h (by decide : ¬ ((1 : Int) = 0))) (fun _ => ?_)
      refine fs_r_call (sta := false) (idx := 334) (as := [.inr (.ref 0), .inl h]) (rest := []) (L1 := [some (.inr (.ref 0)), some (.inl n), some (.inl v), some (.inl h), none, none]) (st1 := [.inl h, .inr (.ref 0)]) (M1 := M) (ob := []) rfl rfl rfl trivial rfl rfl (Nat.le_of_ble_eq_true rfl) ⟨Or.inr (Nat.le_of_ble_eq_true rfl), Or.inr fs_ob0⟩ (by decide) ?_
      refine fs_c_isHouseOrNone (fun (f5 : h = -1 ∨ (0 ≤ h ∧ h < M 5 1)) => ?_) (fun (f6 : ¬ (h = -1 ∨ (0 ≤ h ∧ h < M 5 1))) => ?_)
      · refine fs_r_if (a := 1) (L1 := [some (.inr (.ref 0)), some (.inl n), some (.inl v), some (.inl h), none, none]) (st1 := []) (M1 := M) (ob := []) rfl rfl trivial (fun _ => ?_) (fun h => absurd (by decide : ¬ (1 : Int) = 0) h)
        refine fs_r_if (a := (M 5 1)) (L1 := [some (.inr (.ref 0)), some (.inl n), some (.inl v), some (.inl h), none, none]) (st1 := []) (M1 := M) (ob := [0 < fs_N ∧ fs_kd 0 = 5, 5 < fs_N ∧ fs_kd 5 = 0]) rfl rfl (fs_oc fs_ob0 (fs_oc fs_ob5 trivial)) (fun (h7 : ¬ (M 5 1) = 0) => ?_) (fun (h7 : ¬ (¬ (M 5 1) = 0)) => ?_)
        · refine fs_r_call (sta := false) (idx := 322) (as := [.inr (.ref 20), .inr (.ref 5)]) (rest := []) (L1 := [some (.inr (.ref 0)), some (.inl n), some (.inl v), some (.inl h), none, none]) (st1 := [.inr (.ref 5), .inr (.ref 20)]) (M1 := M) (ob := [0 < fs_N ∧ fs_kd 0 = 5, 0 < fs_N ∧ fs_kd 0 = 5]) rfl rfl rfl (fs_oc fs_ob0 (fs_oc fs_ob0 trivial)) rfl rfl (Nat.le_of_ble_eq_true rfl) ⟨Or.inr (Nat.le_of_ble_eq_true rfl), Or.inr fs_ob20⟩ (by decide) ?_
          refine fs_c_load (N := N) (by assumption) (by assumption) (fun (V1 : fs_M) (l1 : ∀ r, (r < 20 ∨ 31 < r) → V1 r = M r) (l2 : ec_eq (mk V1) (ec_pl N)) (l3 : ∀ q, 0 ≤ q → q < 4 → V1 25 q = if q < N 0 then mm_held N q else 0) => ?_)
          refine fs_r_call (sta := true) (idx := 268) (as := [.inr (.ref 38)]) (rest := []) (L1 := [some (.inr (.ref 0)), some (.inl n), some (.inl v), some (.inl h), none, none]) (st1 := [.inr (.ref 38)]) (M1 := V1) (ob := [0 < fs_N ∧ fs_kd 0 = 5]) rfl rfl rfl (fs_oc fs_ob0 trivial) rfl rfl (Nat.le_of_ble_eq_true rfl) ⟨Or.inr (Nat.le_of_ble_eq_true rfl), trivial⟩ (by decide) ?_
          refine fs_c_clear (n := 6) (by first | assumption | exact ⟨by decide, by decide, by decide⟩) (by omega) ?_
          refine fs_r_nop (L1 := [some (.inr (.ref 0)), some (.inl n), some (.inl v), some (.inl h), some (.inl 0), none]) (st1 := []) (M1 := (fs_cl V1 38 6)) (ob := [4 < 6]) rfl rfl (fs_oc (by decide) trivial) ?_
          have loop65 : ∀ (n65 : Nat) (k : Int) (zl5 : Option fs_V) (M3 : fs_M), (0 ≤ k ∧ k ≤ n) → (cq M M3) → (ec_eq (mk M3) (ec_gv (ec_pl N) (ad_c N v k.toNat))) → (∀ q, 0 ≤ q → q < 6 → M3 38 q = ad_g N v k.toNat q) → n - k < (n65 : Int) → fs_W (d + 7) 116 65 [some (.inr (.ref 0)), some (.inl n), some (.inl v), some (.inl h), some (.inl k), zl5] [] M3 Q := by
            intro n65
            induction n65 with
            | zero =>
              intro k zl5 M3 i0 q3 e3 t3 hm65
              exfalso
              omega
            | succ n65 ih65 =>
              intro k zl5 M3 i0 q3 e3 t3 hm65
              have n3 := congrFun (q3 5 (by decide)) 1
              refine fs_r_icmp (a := k) (y := n) (L1 := [some (.inr (.ref 0)), some (.inl n), some (.inl v), some (.inl h), some (.inl k), zl5]) (st1 := []) (M1 := M3) (ob := []) rfl rfl trivial (fun (h8 : n ≤ k) => ?_) (fun (h8 : ¬ (n ≤ k)) => ?_)
              · refine fs_r_icmp (a := h) (y := (-1)) (L1 := [some (.inr (.ref 0)), some (.inl n), some (.inl v), some (.inl h), some (.inl k), zl5]) (st1 := []) (M1 := M3) (ob := []) rfl rfl trivial (fun (h9 : ¬ h = (-1)) => ?_) (fun (h9 : ¬ (¬ h = (-1))) => ?_)
                · have kn : k = n := by omega
                  refine fs_r_nop (L1 := [some (.inr (.ref 0)), some (.inl n), some (.inl v), some (.inl h), some (.inl k), zl5]) (st1 := [.inl (M3 38 h)]) (M1 := M3) (ob := [0 < fs_N ∧ fs_kd 0 = 5, (38 < fs_N ∧ fs_kd 38 = 100) ∧ (0 : Int) ≤ h ∧ h < fs_ln 38]) rfl rfl (fs_oc fs_ob0 (fs_oc (fs_ar38 (by omega) (by omega)) trivial)) ?_
                  refine fs_r_iret (a := (M3 38 h)) (L1 := [some (.inr (.ref 0)), some (.inl n), some (.inl v), some (.inl h), some (.inl k), zl5]) (M1 := M3) (ob := []) rfl rfl trivial (Or.inl rfl) ?_
                  first
                    | (refine fs_qi ?_ (hq0 _ (q3.tr (cq.f f4)))
                       unfold rq_aid
                       rw [if_pos (by omega), if_neg (by omega), if_pos (by omega), ← kn]
                       congr 1
                       funext q
                       show (if q = 0 then ad_c N v k.toNat q + 0 else ad_c N v k.toNat q) = ad_c N v k.toNat q
                       split <;> omega)
                    | exact fs_qi (by unfold rq_aid; rw [if_pos (by omega), if_neg (by omega), if_neg (by omega), t3 h (by omega) (by omega), kn]) (hq0 _ q3)
                have kn : k = n := by omega
                have og : gv_k (ad_c N v k.toNat) := fun q q0 q1 => by have := ad_c_b (N := N) (v := v) (by omega) k.toNat q; omega
                have og0 := ad_c_b (N := N) (v := v) (by omega) k.toNat 0
                refine fs_r_call (sta := false) (idx := 328) (as := [.inr (.ref 0), .inl 0, .inl 0]) (rest := []) (L1 := [some (.inr (.ref 0)), some (.inl n), some (.inl v), some (.inl h), some (.inl k), zl5]) (st1 := [.inl 0, .inl 0, .inr (.ref 0)]) (M1 := M3) (ob := []) rfl rfl rfl trivial rfl rfl (Nat.le_of_ble_eq_true rfl) ⟨Or.inr (Nat.le_of_ble_eq_true rfl), Or.inr fs_ob0⟩ (by decide) ?_
                refine fs_c_lostWith (N := N) (g := (ad_c N v k.toNat)) (by assumption) (e3) (og) (by omega) (by omega) (fun (V4 : fs_M) (f4 : mk_f M3 V4) => ?_)
                refine fs_r_goto (L1 := [some (.inr (.ref 0)), some (.inl n), some (.inl v), some (.inl h), some (.inl k), zl5]) (st1 := [.inl (gv_l N (gv_p (ad_c N v k.toNat) 0 0))]) (M1 := V4) (ob := []) rfl rfl trivial ?_
                refine fs_r_iret (a := (gv_l N (gv_p (ad_c N v k.toNat) 0 0))) (L1 := [some (.inr (.ref 0)), some (.inl n), some (.inl v), some (.inl h), some (.inl k), zl5]) (M1 := V4) (ob := []) rfl rfl trivial (Or.inl rfl) ?_
                first
                  | (refine fs_qi ?_ (hq0 _ (q3.tr (cq.f f4)))
                     unfold rq_aid
                     rw [if_pos (by omega), if_neg (by omega), if_pos (by omega), ← kn]
                     congr 1
                     funext q
                     show (if q = 0 then ad_c N v k.toNat q + 0 else ad_c N v k.toNat q) = ad_c N v k.toNat q
                     split <;> omega)
                  | exact fs_qi (by unfold rq_aid; rw [if_pos (by omega), if_neg (by omega), if_neg (by omega), t3 h (by omega) (by omega), kn]) (hq0 _ q3)
              have og : gv_k (ad_c N v k.toNat) := fun q q0 q1 => by have := ad_c_b (N := N) (v := v) (by omega) k.toNat q; omega
              refine fs_r_call (sta := false) (idx := 325) (as := [.inr (.ref 0), .inl v]) (rest := []) (L1 := [some (.inr (.ref 0)), some (.inl n), some (.inl v), some (.inl h), some (.inl k), zl5]) (st1 := [.inl v, .inr (.ref 0)]) (M1 := M3) (ob := []) rfl rfl rfl trivial rfl rfl (Nat.le_of_ble_eq_true rfl) ⟨Or.inr (Nat.le_of_ble_eq_true rfl), Or.inr fs_ob0⟩ (by decide) ?_
              refine fs_c_bestHouseFor (N := N) (g := (ad_c N v k.toNat)) (by omega) (by assumption) (e3) (og) (⟨by omega, fun q q0 q1 => by have := ad_c_b (N := N) (v := v) (by omega) k.toNat q; omega⟩) (by omega) (fun (V2 : fs_M) (f2 : mk_f M3 V2) => ?_)
              have ab := (aa_b_b (N := N) (g := ad_c N v k.toNat) (v := v) (N 1).toNat).2 (by omega)
              have ek : (k + 1).toNat = k.toNat + 1 := by omega
              have gb := ad_c_b (N := N) (v := v) (by omega) k.toNat (aa_b N (ad_c N v k.toNat) v (N 1).toNat)
              have gg := ad_g_b (N := N) (v := v) k.toNat (aa_b N (ad_c N v k.toNat) v (N 1).toNat)
              have e2 : ec_eq (mk V2) (ec_gv (ec_pl N) (ad_c N v k.toNat)) := by rw [f2.E]; exact e3
              have b2 := eq_b e2 (gv_bd hN og)
              have o2 := (b2.2.2.2.2.1 (aa_b N (ad_c N v k.toNat) v (N 1).toNat) (by omega) (by have w : V2 20 1 = N 1 := e2.2.1; omega)).1
              have w2 : V2 20 1 = N 1 := e2.2.1
              have k38 : V2 38 = M3 38 := f2 38 (by decide) (by decide)
              have t9 := t3 (aa_b N (ad_c N v k.toNat) v (N 1).toNat) (by omega) (by omega)
              rw [← k38] at t9
              refine fs_r_call (sta := false) (idx := 337) (as := [.inr (.ref 20), .inl (aa_b N (ad_c N v k.toNat) v (N 1).toNat), .inl v]) (rest := []) (L1 := [some (.inr (.ref 0)), some (.inl n), some (.inl v), some (.inl h), some (.inl k), some (.inl (aa_b N (ad_c N v k.toNat) v (N 1).toNat))]) (st1 := [.inl v, .inl (aa_b N (ad_c N v k.toNat) v (N 1).toNat), .inr (.ref 20)]) (M1 := V2) (ob := [5 < 6, 0 < fs_N ∧ fs_kd 0 = 5]) rfl rfl rfl (fs_oc (by decide) (fs_oc fs_ob0 trivial)) rfl rfl (Nat.le_of_ble_eq_true rfl) ⟨Or.inr (Nat.le_of_ble_eq_true rfl), Or.inr fs_ob20⟩ (by decide) ?_
              refine fs_c_give (by omega) (by omega) ?_
              refine fs_r_goto (L1 := [some (.inr (.ref 0)), some (.inl n), some (.inl v), some (.inl h), some (.inl (k + 1)), some (.inl (aa_b N (ad_c N v k.toNat) v (N 1).toNat))]) (st1 := []) (M1 := (fs_up (fs_up V2 27 (aa_b N (ad_c N v k.toNat) v (N 1).toNat) ((V2 27 (aa_b N (ad_c N v k.toNat) v (N 1).toNat)) + v)) 38 (aa_b N (ad_c N v k.toNat) v (N 1).toNat) ((V2 38 (aa_b N (ad_c N v k.toNat) v (N 1).toNat)) + 1))) (ob := [0 < fs_N ∧ fs_kd 0 = 5, (38 < fs_N ∧ fs_kd 38 = 100) ∧ (0 : Int) ≤ (aa_b N (ad_c N v k.toNat) v (N 1).toNat) ∧ (aa_b N (ad_c N v k.toNat) v (N 1).toNat) < fs_ln 38, fs_rg ((V2 38 (aa_b N (ad_c N v k.toNat) v (N 1).toNat)) + 1), (38 < fs_N ∧ fs_kd 38 = 100) ∧ (0 : Int) ≤ (aa_b N (ad_c N v k.toNat) v (N 1).toNat) ∧ (aa_b N (ad_c N v k.toNat) v (N 1).toNat) < fs_ln 38, fs_rg (k + 1)]) rfl (fs_exA 6 (o1 := [0 < fs_N ∧ fs_kd 0 = 5, (38 < fs_N ∧ fs_kd 38 = 100) ∧ (0 : Int) ≤ (aa_b N (ad_c N v k.toNat) v (N 1).toNat) ∧ (aa_b N (ad_c N v k.toNat) v (N 1).toNat) < fs_ln 38]) (L1 := [some (.inr (.ref 0)), some (.inl n), some (.inl v), some (.inl h), some (.inl k), some (.inl (aa_b N (ad_c N v k.toNat) v (N 1).toNat))]) (st1 := [.inl 1, .inl (V2 38 (aa_b N (ad_c N v k.toNat) v (N 1).toNat)), .inl (aa_b N (ad_c N v k.toNat) v (N 1).toNat), .inr (.ref 38)]) (M1 := (fs_up V2 27 (aa_b N (ad_c N v k.toNat) v (N 1).toNat) ((V2 27 (aa_b N (ad_c N v k.toNat) v (N 1).toNat)) + v))) (o2 := [fs_rg ((V2 38 (aa_b N (ad_c N v k.toNat) v (N 1).toNat)) + 1), (38 < fs_N ∧ fs_kd 38 = 100) ∧ (0 : Int) ≤ (aa_b N (ad_c N v k.toNat) v (N 1).toNat) ∧ (aa_b N (ad_c N v k.toNat) v (N 1).toNat) < fs_ln 38, fs_rg (k + 1)]) rfl rfl) (fs_oc fs_ob0 (fs_oc (fs_ar38 (by omega) (by omega)) (fs_oc ⟨by omega, by omega⟩ (fs_oc (fs_ar38 (by omega) (by omega)) (fs_oc ⟨by omega, by omega⟩ trivial))))) ?_
              exact ih65 ((k + 1)) (some (.inl (aa_b N (ad_c N v k.toNat) v (N 1).toNat))) (fs_up (fs_up V2 27 (aa_b N (ad_c N v k.toNat) v (N 1).toNat) ((V2 27 (aa_b N (ad_c N v k.toNat) v (N 1).toNat)) + v)) 38 (aa_b N (ad_c N v k.toNat) v (N 1).toNat) ((V2 38 (aa_b N (ad_c N v k.toNat) v (N 1).toNat)) + 1)) (by omega) (((q3.tr (cq.f f2)).up (by decide)).up (by decide)) (by rw [mk_eq (M2 := fs_up (fs_up V2 27 _ _) 38 _ _) (M := fs_up V2 27 _ _) (fun r a b c => fs_up_other (by omega)), ek]; exact gv_up e2) (fun q q0 q1 => by
                     rw [ek]
                     show fs_up (fs_up V2 27 _ _) 38 _ _ 38 q = (if q = _ then ad_g N v k.toNat q + 1 else ad_g N v k.toNat q)
                     rw [fs_up_at]
                     by_cases z : q = aa_b N (ad_c N v k.toNat) v (N 1).toNat
                     · rw [if_pos z, if_pos z, z]
                       show V2 38 _ + 1 = _
                       rw [t9]
                     · rw [if_neg z, if_neg z, fs_up_other (by decide), k38]
                       exact t3 q q0 q1) (by omega)
          exact loop65 (((n - (0)) : Int) + 1).toNat (0) (none) (fs_cl V1 38 6) (by omega) ((cq.ld l1).tr (fun r z => by rw [fs_cl_o (by omega)])) (by rw [mk_eq (fun r a b c => fs_cl_o (by omega))]; exact gv_pl l2) (fun q q0 q1 => by rw [fs_cl_i q0 q1]; rfl) (by omega)
        refine fs_r_iret (a := (-2)) (L1 := [some (.inr (.ref 0)), some (.inl n), some (.inl v), some (.inl h), none, none]) (M1 := M) (ob := []) rfl rfl trivial (Or.inl rfl) ?_
        exact fs_qi (by unfold rq_aid; rw [if_pos (by omega), if_pos (by omega)]) (hq0 _ cq.rf)
      refine fs_r_if (a := 0) (L1 := [some (.inr (.ref 0)), some (.inl n), some (.inl v), some (.inl h), none, none]) (st1 := []) (M1 := M) (ob := []) rfl rfl trivial (fun h => absurd h (by decide : ¬ (¬ (0 : Int) = 0))) (fun _ => ?_)
      refine fs_r_iret (a := (-1)) (L1 := [some (.inr (.ref 0)), some (.inl n), some (.inl v), some (.inl h), none, none]) (M1 := M) (ob := []) rfl rfl trivial (Or.inl rfl) ?_
      exact fs_qi (by unfold rq_aid; rw [if_neg (fun z => by omega)]) (hq0 _ cq.rf)
    refine fs_r_if (a := 0) (L1 := [some (.inr (.ref 0)), some (.inl n), some (.inl v), some (.inl h), none, none]) (st1 := []) (M1 := M) (ob := []) rfl rfl trivial (fun _ => ?_) (fun h => absurd (by decide : (0 : Int) = 0) h)
    refine fs_r_iret (a := (-1)) (L1 := [some (.inr (.ref 0)), some (.inl n), some (.inl v), some (.inl h), none, none]) (M1 := M) (ob := []) rfl rfl trivial (Or.inl rfl) ?_
    exact fs_qi (by unfold rq_aid; rw [if_neg (fun z => by omega)]) (hq0 _ cq.rf)
  refine fs_r_if (a := 0) (L1 := [some (.inr (.ref 0)), some (.inl n), some (.inl v), some (.inl h), none, none]) (st1 := []) (M1 := M) (ob := []) rfl rfl trivial (fun _ => ?_) (fun h => absurd (by decide : (0 : Int) = 0) h)
  refine fs_r_iret (a := (-1)) (L1 := [some (.inr (.ref 0)), some (.inl n), some (.inl v), some (.inl h), none, none]) (M1 := M) (ob := []) rfl rfl trivial (Or.inl rfl) ?_
  exact fs_qi (by unfold rq_aid; rw [if_neg (fun z => by omega)]) (hq0 _ cq.rf)
