/-! gifts: coins as a row -/
def ec_gv (E : Nat → Int → Int) (g : Int → Int) : Nat → Int → Int := fun c i => if c = 7 then E 7 i + g i else E c i
def mm_G (B V : fs_M) (g : Int → Int) : Prop := mm_q B V ∧ (V 124 19 = -1 ∧ V 124 20 = 360 ∧ V 124 21 = 0 ∧ V 124 22 = -1 ∧ V 124 23 = 0 ∧ V 124 24 = 100 ∧ V 124 25 = 0) ∧ ∀ h, 0 ≤ h → h < 6 → V 131 h = g h
def gv_ok (g : Int → Int) : Prop := ∀ h, 0 ≤ h → h < 6 → 0 ≤ g h ∧ g h ≤ 9999
def gv_p (g : Int → Int) (h v : Int) : Int → Int := fun q => if q = h then g q + v else g q
section MmG
variable {B V V2 : fs_M} {g : Int → Int}
theorem mm_G.P (p : mm_P B V) : mm_G B V (fun _ => 0) := ⟨mm_q.P p, p.2.2.2, p.2.2.1⟩
theorem mm_G.f3 (h : mm_G B V g) (f : mm_f3 V V2) : mm_G B V2 g := by
  obtain ⟨h1, ⟨h3, h4, h5, h6, h7, h8, h9⟩, h2⟩ := h
  refine ⟨h1.tr (mm_q.f3 f), ⟨?_, ?_, ?_, ?_, ?_, ?_, ?_⟩, fun q q0 q1 => by rw [f.1 131 (by decide) (by decide) (by decide)]; exact h2 q q0 q1⟩
  all_goals (rw [f.2 _ (by decide) (by decide) (by decide)]; assumption)
theorem mm_G.u {h v : Int} (k : mm_G B V g) : mm_G B (fs_up V 131 h v) (fun q => if q = h then v else g q) := by
  obtain ⟨h1, h3, h2⟩ := k
  refine ⟨h1.u131, h3, fun q q0 q1 => ?_⟩
  rw [fs_up_at]
  show _ = if q = h then v else g q
  rw [h2 q q0 q1]
theorem mm_G.u30 {v : Int} (k : mm_G B V g) : mm_G B (fs_up V 124 30 v) g := by
  obtain ⟨h1, h3, h2⟩ := k
  exact ⟨⟨fun r q => by rw [fs_up_other (by omega)]; exact h1.1 r q, h1.2.1, h1.2.2⟩, h3, fun q q0 q1 => by rw [fs_up_other (by decide)]; exact h2 q q0 q1⟩
theorem mm_G.u136 {i v : Int} (k : mm_G B V g) : mm_G B (fs_up V 136 i v) g := by
  obtain ⟨h1, h3, h2⟩ := k
  exact ⟨⟨fun r q => by rw [fs_up_other (by omega)]; exact h1.1 r q, h1.2.1, h1.2.2⟩, h3, fun q q0 q1 => by rw [fs_up_other (by decide)]; exact h2 q q0 q1⟩
theorem mm_G.to {g2 : Int → Int} (k : mm_G B V g) (e : ∀ q, 0 ≤ q → q < 6 → g q = g2 q) : mm_G B V g2 := ⟨k.1, k.2.1, fun q q0 q1 => by rw [k.2.2 q q0 q1, e q q0 q1]⟩
theorem mm_G.I (h : mm_G B V g) (hN : fs_NI (B 125)) (hg : gv_ok g) : mm_I V := by
  obtain ⟨h1, ⟨h3, h4, h5, h6, h7, h8, h9⟩, h2⟩ := h
  refine ⟨by rw [h1.N]; exact hN, fun q q0 q1 => by rw [h2 q q0 q1]; have := hg q q0 q1; omega, ?_, ?_, ?_, ?_, ?_⟩
  all_goals omega
theorem mm_G.e (h : mm_G B V g) (hN : fs_NI (B 125)) : ec_eq (mm_E V) (ec_gv (ec_pl (B 125)) g) := by
  obtain ⟨h1, ⟨h4, h5, h6, h7, h8, h9, h10⟩, h3⟩ := h
  have e := h1.N
  refine ⟨by show V 125 0 = B 125 0; rw [e], by show V 125 1 = B 125 1; rw [e], h10, fun a a0 a1 => ⟨?_, ?_, ?_, ?_, ?_⟩, fun q q0 q1 => ⟨?_, ?_, ?_, ?_, ?_⟩, fun q a _ _ _ _ => ?_, fun o q _ _ _ _ => ?_⟩
  · show V 125 (2 + a) * V 124 24 / 100 - (mm_shock (V 125) a + (if a = V 124 19 then V 124 21 else 0)) = B 125 (2 + a) - mm_shock (B 125) a
    rw [e, h9, h4, if_neg (by omega)]
    omega
  · show V 125 (6 + a) = B 125 (6 + a)
    rw [e]
  · show (if a = V 124 19 ∧ V 124 20 < mm_cap (V 125) a then V 124 20 else mm_cap (V 125) a) = mm_cap (B 125) a
    rw [e, h4, if_neg (by omega)]
  · show (if a = V 124 22 then V 124 23 else 0) = 0
    rw [h7, if_neg (by omega)]
  · show mm_held (V 125) a = mm_held (B 125) a
    rw [e]
  · show V 125 (10 + 5 * q + 0) + (if 0 ≤ q ∧ q < 6 then V 131 q else 0) - V 125 (10 + 5 * q + 1) - fs_sum (V 125 1).toNat (fun o => V 125 (64 + 6 * q + o)) = (B 125 (10 + 5 * q + 0) - B 125 (10 + 5 * q + 1) - fs_sum (B 125 1).toNat (fun o => B 125 (64 + 6 * q + o))) + g q
    have q2 : q < 6 := by
      have : q < V 125 1 := q1
      rw [e] at this
      have := hN.2.1.2
      omega
    rw [e, if_pos ⟨q0, q2⟩, h3 q q0 q2]
    omega
  · show mm_pieces (V 125) q = mm_pieces (B 125) q
    rw [e]
  all_goals (first | (show V 125 _ = B 125 _; rw [e]))
end MmG
noncomputable def gv_l (N : Int → Int) (g : Int → Int) : Int := ec_lost (ec_gv (ec_pl N) g) (ec_lst (ec_gv (ec_pl N) g))
theorem mm_G.l {B V : fs_M} {g : Int → Int} (h : mm_G B V g) (hN : fs_NI (B 125)) (hg : gv_ok g) : ec_lost (mm_E V) (ec_lst (mm_E V)) = gv_l (B 125) g := by
  have i := h.I hN hg
  have e := h.e hN
  unfold gv_l
  rw [e.lost, e.lst i.1.2.1.1 (mm_okc i)]
/-- the house that a gift helps most, and what is lost then -/
noncomputable def aa_m (N : Int → Int) (g : Int → Int) (v : Int) : Nat → Int
  | 0 => 0
  | n + 1 => if n = 0 ∨ gv_l N (gv_p g n v) < aa_m N g v n then gv_l N (gv_p g n v) else aa_m N g v n
noncomputable def aa_b (N : Int → Int) (g : Int → Int) (v : Int) : Nat → Int
  | 0 => -2
  | n + 1 => if n = 0 ∨ gv_l N (gv_p g n v) < aa_m N g v n then n else aa_b N g v n
theorem aa_b_b {N g : Int → Int} {v : Int} : ∀ n : Nat, (n = 0 → aa_b N g v n = -2) ∧ (0 < n → 0 ≤ aa_b N g v n ∧ aa_b N g v n < n)
  | 0 => ⟨fun _ => rfl, fun h => by omega⟩
  | n + 1 => by
    refine ⟨fun h => by omega, fun _ => ?_⟩
    have ih := aa_b_b (N := N) (g := g) (v := v) n
    unfold aa_b
    split
    · omega
    · next h =>
      have := ih.2 (by omega)
      omega
noncomputable def rq_helper (N : Int → Int) (c w : Int) : Int := if (0 ≤ c ∧ c ≤ 9999) ∧ (0 ≤ w ∧ w ≤ 1) then (if N 1 = 0 ∨ w = 0 then aa_b N (fun _ => 0) c (N 1).toNat else aa_m N (fun _ => 0) c (N 1).toNat) else -1
theorem fs_m_lostNow {d : Nat} {M : fs_M} {Q : Option fs_V → fs_M → Prop}   (hI : mm_I M) (hq0 : ∀ (x : Int) (M2 : fs_M), (mm_f3 M M2) → (x = ec_lost (mm_E M) (ec_lst (mm_E M))) → (0 ≤ x ∧ x ≤ 288000) → Q (some (.inl x)) M2) : fs_W (d + 8) 254 0 [some (.inr (.ref 124))] [] M Q := by
  refine fs_r_call (sta := false) (idx := 255) (as := [.inr (.ref 124)]) (rest := []) (L1 := [some (.inr (.ref 124))]) (st1 := [.inr (.ref 124)]) (M1 := M) (ob := []) rfl rfl rfl trivial rfl rfl (Nat.le_of_ble_eq_true rfl) ⟨Or.inr (Nat.le_of_ble_eq_true rfl), Or.inr fs_ob124⟩ (by decide) ?_
  refine fs_m_least (by assumption) (fun (V1 : fs_M) (g1 : mm_f3 M V1) (g2 : mm_st V1 = ec_fix (mm_E M) (ec_calm (mm_E M))) (g3 : mm_J V1) (g4 : mm_Z V1) (g5 : V1 124 17 = (ec_k (mm_E M) (ec_calm (mm_E M)) : Nat)) => ?_)
  refine fs_r_call (sta := false) (idx := 227) (as := [.inr (.ref 124)]) (rest := []) (L1 := [some (.inr (.ref 124))]) (st1 := [.inr (.ref 124)]) (M1 := V1) (ob := []) rfl rfl rfl trivial rfl rfl (Nat.le_of_ble_eq_true rfl) ⟨Or.inr (Nat.le_of_ble_eq_true rfl), Or.inr fs_ob124⟩ (by decide) ?_
  refine fs_m_lost (g1.I hI) (g3) ?_
  refine fs_r_iret (a := (ec_lost (mm_E V1) (mm_st V1))) (L1 := [some (.inr (.ref 124))]) (M1 := V1) (ob := []) rfl rfl trivial (Or.inl rfl) ?_
  have e : ec_lost (mm_E V1) (mm_st V1) = ec_lost (mm_E M) (ec_lst (mm_E M)) := by rw [g1.E, g2]; rfl
  have bb := mm_lostS_b (g1.I hI) g3
  have nn := (g1.I hI).1.1
  exact hq0 _ _ g1 e ⟨bb.1, by omega⟩

theorem fs_m_helped {d : Nat} {M : fs_M} {Q : Option fs_V → fs_M → Prop} {v : Int} {B : fs_M} {g : Int → Int} (hN : fs_NI (B 125)) (hG : mm_G B M g) (hg : gv_ok g ∧ ∀ h, 0 ≤ h → h < 6 → g h + v ≤ 9999) (hv : 0 ≤ v ∧ v ≤ 9999) (hq0 : ∀ (x : Int) (M2 : fs_M), (x = aa_b (B 125) g v (B 125 1).toNat) → (mm_G B M2 g) → (0 < B 125 1 → M2 124 30 = aa_m (B 125) g v (B 125 1).toNat) → (M2 136 = M 136) → Q (some (.inl x)) M2) : fs_W (d + 9) 255 0 [some (.inr (.ref 124)), some (.inl v), none, none, none] [] M Q := by
  obtain ⟨⟨hA0, hA1⟩, ⟨hH0, hH1⟩, -⟩ := id hN
  refine fs_r_nop (L1 := [some (.inr (.ref 124)), some (.inl v), some (.inl (-2)), some (.inl 0), none]) (st1 := []) (M1 := M) (ob := [2 < 5, 3 < 5]) rfl rfl (fs_oc (by decide) (fs_oc (by decide) trivial)) ?_
  have loop5 : ∀ (n5 : Nat) (b : Int) (h : Int) (zl4 : Option fs_V) (M3 : fs_M), (0 ≤ h ∧ h ≤ B 125 1) → (mm_G B M3 g) → (b = aa_b (B 125) g v h.toNat) → (0 < h → M3 124 30 = aa_m (B 125) g v h.toNat) → (M3 136 = M 136) → B 125 1 - h < (n5 : Int) → fs_W (d + 9) 255 5 [some (.inr (.ref 124)), some (.inl v), some (.inl b), some (.inl h), zl4] [] M3 Q := by
    intro n5
    induction n5 with
    | zero =>
      intro b h zl4 M3 i0 G3 b0 m0 k0 hm5
      exfalso
      omega
    | succ n5 ih5 =>
      intro b h zl4 M3 i0 G3 b0 m0 k0 hm5
      have n3 := congrFun G3.1.N 1
      refine fs_r_icmp (a := h) (y := (M3 125 1)) (L1 := [some (.inr (.ref 124)), some (.inl v), some (.inl b), some (.inl h), zl4]) (st1 := []) (M1 := M3) (ob := [124 < fs_N ∧ fs_kd 124 = 6, (125 < fs_N ∧ fs_kd 125 = 100) ∧ (0 : Int) ≤ 1 ∧ 1 < fs_ln 125]) rfl rfl (fs_oc fs_ob124 (fs_oc (fs_ar125 (by omega) (by omega)) trivial)) (fun (h1 : (M3 125 1) ≤ h) => ?_) (fun (h1 : ¬ ((M3 125 1) ≤ h)) => ?_)
      · refine fs_r_iret (a := b) (L1 := [some (.inr (.ref 124)), some (.inl v), some (.inl b), some (.inl h), zl4]) (M1 := M3) (ob := []) rfl rfl trivial (Or.inl rfl) ?_
        exact hq0 _ _ (by rw [b0, show h = B 125 1 by omega]) G3 (fun z => by rw [m0 (by omega), show h = B 125 1 by omega]) k0
      have g3 := G3.2.2 h (by omega) (by omega)
      have gb := hg.1 h (by omega) (by omega)
      have gc := hg.2 h (by omega) (by omega)
      have G4 : mm_G B (fs_up M3 131 h ((M3 131 h) + v)) (gv_p g h v) := G3.u.to (fun q _ _ => by unfold gv_p; split; (rename_i z; rw [z, g3]); rfl)
      have og : gv_ok (gv_p g h v) := fun q q0 q1 => by
        have w1 := hg.1 q q0 q1
        have w2 := hg.2 q q0 q1
        unfold gv_p
        split <;> omega
      have IG := G4.I hN og
      have lG := G4.l hN og
      refine fs_r_call (sta := false) (idx := 312) (as := [.inr (.ref 124)]) (rest := []) (L1 := [some (.inr (.ref 124)), some (.inl v), some (.inl b), some (.inl h), zl4]) (st1 := [.inr (.ref 124)]) (M1 := (fs_up M3 131 h ((M3 131 h) + v))) (ob := [124 < fs_N ∧ fs_kd 124 = 6, (131 < fs_N ∧ fs_kd 131 = 100) ∧ (0 : Int) ≤ h ∧ h < fs_ln 131, fs_rg ((M3 131 h) + v), (131 < fs_N ∧ fs_kd 131 = 100) ∧ (0 : Int) ≤ h ∧ h < fs_ln 131]) rfl rfl (fs_exA 6 (o1 := [124 < fs_N ∧ fs_kd 124 = 6, (131 < fs_N ∧ fs_kd 131 = 100) ∧ (0 : Int) ≤ h ∧ h < fs_ln 131]) (L1 := [some (.inr (.ref 124)), some (.inl v), some (.inl b), some (.inl h), zl4]) (st1 := [.inl v, .inl (M3 131 h), .inl h, .inr (.ref 131)]) (M1 := M3) (o2 := [fs_rg ((M3 131 h) + v), (131 < fs_N ∧ fs_kd 131 = 100) ∧ (0 : Int) ≤ h ∧ h < fs_ln 131]) rfl rfl) (fs_oc fs_ob124 (fs_oc (fs_ar131 (by omega) (by omega)) (fs_oc ⟨by omega, by omega⟩ (fs_oc (fs_ar131 (by omega) (by omega)) trivial)))) rfl rfl (Nat.le_of_ble_eq_true rfl) ⟨Or.inr (Nat.le_of_ble_eq_true rfl), Or.inr fs_ob124⟩ (by decide) ?_
      refine fs_m_lostNow (IG) (fun (x : Int) (V1 : fs_M) (g1 : mm_f3 (fs_up M3 131 h ((M3 131 h) + v)) V1) (xe : x = ec_lost (mm_E (fs_up M3 131 h ((M3 131 h) + v))) (ec_lst (mm_E (fs_up M3 131 h ((M3 131 h) + v))))) (gg : 0 ≤ x ∧ x ≤ 288000) => ?_)
      rw [lG] at xe
      have G5 := G4.f3 g1
      have g5 := G5.2.2 h (by omega) (by omega)
      have g6 : gv_p g h v h = g h + v := by unfold gv_p; rw [if_pos rfl]
      have G6 : mm_G B (fs_up V1 131 h ((V1 131 h) - v)) g := G5.u.to (fun q _ _ => by unfold gv_p; split; (rename_i z; rw [z, g5, g6]; omega); rfl)
      have k1 : V1 136 = M3 136 := (g1.1 136 (by decide) (by decide) (by decide)).trans (fs_up_other (by decide))
      have ab := aa_b_b (N := B 125) (g := g) (v := v) h.toNat
      have am : aa_m (B 125) g v (h + 1).toNat = if h = 0 ∨ gv_l (B 125) (gv_p g h v) < aa_m (B 125) g v h.toNat then gv_l (B 125) (gv_p g h v) else aa_m (B 125) g v h.toNat := by
        obtain ⟨n, rfl⟩ := Int.eq_ofNat_of_zero_le i0.1
        show (if n = 0 ∨ _ then _ else _) = (if ((n : Nat) : Int) = 0 ∨ _ then _ else _)
        by_cases z : n = 0
        · rw [if_pos (Or.inl z), if_pos (Or.inl (by omega))]
        · simp only [z, false_or, show ¬ ((n : Nat) : Int) = 0 by omega]
          rfl
      have as : aa_b (B 125) g v (h + 1).toNat = if h = 0 ∨ gv_l (B 125) (gv_p g h v) < aa_m (B 125) g v h.toNat then h else aa_b (B 125) g v h.toNat := by
        obtain ⟨n, rfl⟩ := Int.eq_ofNat_of_zero_le i0.1
        show (if n = 0 ∨ _ then _ else _) = (if ((n : Nat) : Int) = 0 ∨ _ then _ else _)
        by_cases z : n = 0
        · rw [if_pos (Or.inl z), if_pos (Or.inl (by omega))]
        · simp only [z, false_or, show ¬ ((n : Nat) : Int) = 0 by omega]
          rfl
      have l30 : V1 124 30 = M3 124 30 := g1.2 30 (by decide) (by decide) (by decide)
      refine fs_r_icmp (a := b) (y := (-2)) (L1 := [some (.inr (.ref 124)), some (.inl v), some (.inl b), some (.inl h), some (.inl x)]) (st1 := []) (M1 := (fs_up V1 131 h ((V1 131 h) - v))) (ob := [4 < 5, 124 < fs_N ∧ fs_kd 124 = 6, (131 < fs_N ∧ fs_kd 131 = 100) ∧ (0 : Int) ≤ h ∧ h < fs_ln 131, fs_rg ((V1 131 h) - v), (131 < fs_N ∧ fs_kd 131 = 100) ∧ (0 : Int) ≤ h ∧ h < fs_ln 131]) rfl (fs_exA 6 (o1 := [4 < 5, 124 < fs_N ∧ fs_kd 124 = 6, (131 < fs_N ∧ fs_kd 131 = 100) ∧ (0 : Int) ≤ h ∧ h < fs_ln 131]) (L1 := [some (.inr (.ref 124)), some (.inl v), some (.inl b), some (.inl h), some (.inl x)]) (st1 := [.inl (V1 131 h), .inl h, .inr (.ref 131)]) (M1 := V1) (o2 := [fs_rg ((V1 131 h) - v), (131 < fs_N ∧ fs_kd 131 = 100) ∧ (0 : Int) ≤ h ∧ h < fs_ln 131]) rfl rfl) (fs_oc (by decide) (fs_oc fs_ob124 (fs_oc (fs_ar131 (by omega) (by omega)) (fs_oc ⟨by omega, by omega⟩ (fs_oc (fs_ar131 (by omega) (by omega)) trivial))))) (fun (h2 : b = (-2)) => ?_) (fun (h2 : ¬ (b = (-2))) => ?_)
      · refine fs_r_nop (L1 := [some (.inr (.ref 124)), some (.inl v), some (.inl h), some (.inl h), some (.inl x)]) (st1 := []) (M1 := (fs_up (fs_up V1 131 h ((V1 131 h) - v)) 124 30 x)) (ob := [2 < 5, 124 < fs_N ∧ fs_kd 124 = 6]) rfl rfl (fs_oc (by decide) (fs_oc fs_ob124 trivial)) ?_
        refine fs_r_goto (L1 := [some (.inr (.ref 124)), some (.inl v), some (.inl h), some (.inl (h + 1)), some (.inl x)]) (st1 := []) (M1 := (fs_up (fs_up V1 131 h ((V1 131 h) - v)) 124 30 x)) (ob := [fs_rg (h + 1)]) rfl rfl (fs_oc ⟨by omega, by omega⟩ trivial) ?_
        exact ih5 (h) ((h + 1)) (some (.inl x)) (fs_up (fs_up V1 131 h ((V1 131 h) - v)) 124 30 x) (by omega) (by first | exact G6 | exact G6.u30) (by rw [as]; first | (rw [if_pos (by omega)]) | (rw [if_neg (by omega)]; exact b0)) (fun _ => by rw [am]; first | (rw [if_pos (by omega)]; rw [fs_up_at, if_pos rfl]; exact xe) | (rw [if_neg (by omega)]; show V1 124 30 = _; rw [l30]; exact m0 (by omega))) (by show V1 136 = _; rw [k1]; exact k0) (by omega)
      refine fs_r_icmp (a := x) (y := (V1 124 30)) (L1 := [some (.inr (.ref 124)), some (.inl v), some (.inl b), some (.inl h), some (.inl x)]) (st1 := []) (M1 := (fs_up V1 131 h ((V1 131 h) - v))) (ob := [124 < fs_N ∧ fs_kd 124 = 6]) rfl rfl (fs_oc fs_ob124 trivial) (fun (h3 : (V1 124 30) ≤ x) => ?_) (fun (h3 : ¬ ((V1 124 30) ≤ x)) => ?_)
      · refine fs_r_goto (L1 := [some (.inr (.ref 124)), some (.inl v), some (.inl b), some (.inl (h + 1)), some (.inl x)]) (st1 := []) (M1 := (fs_up V1 131 h ((V1 131 h) - v))) (ob := [fs_rg (h + 1)]) rfl rfl (fs_oc ⟨by omega, by omega⟩ trivial) ?_
        exact ih5 (b) ((h + 1)) (some (.inl x)) (fs_up V1 131 h ((V1 131 h) - v)) (by omega) (by first | exact G6 | exact G6.u30) (by rw [as]; first | (rw [if_pos (by omega)]) | (rw [if_neg (by omega)]; exact b0)) (fun _ => by rw [am]; first | (rw [if_pos (by omega)]; rw [fs_up_at, if_pos rfl]; exact xe) | (rw [if_neg (by omega)]; show V1 124 30 = _; rw [l30]; exact m0 (by omega))) (by show V1 136 = _; rw [k1]; exact k0) (by omega)
      refine fs_r_nop (L1 := [some (.inr (.ref 124)), some (.inl v), some (.inl h), some (.inl h), some (.inl x)]) (st1 := []) (M1 := (fs_up (fs_up V1 131 h ((V1 131 h) - v)) 124 30 x)) (ob := [2 < 5, 124 < fs_N ∧ fs_kd 124 = 6]) rfl rfl (fs_oc (by decide) (fs_oc fs_ob124 trivial)) ?_
      refine fs_r_goto (L1 := [some (.inr (.ref 124)), some (.inl v), some (.inl h), some (.inl (h + 1)), some (.inl x)]) (st1 := []) (M1 := (fs_up (fs_up V1 131 h ((V1 131 h) - v)) 124 30 x)) (ob := [fs_rg (h + 1)]) rfl rfl (fs_oc ⟨by omega, by omega⟩ trivial) ?_
      exact ih5 (h) ((h + 1)) (some (.inl x)) (fs_up (fs_up V1 131 h ((V1 131 h) - v)) 124 30 x) (by omega) (by first | exact G6 | exact G6.u30) (by rw [as]; first | (rw [if_pos (by omega)]) | (rw [if_neg (by omega)]; exact b0)) (fun _ => by rw [am]; first | (rw [if_pos (by omega)]; rw [fs_up_at, if_pos rfl]; exact xe) | (rw [if_neg (by omega)]; show V1 124 30 = _; rw [l30]; exact m0 (by omega))) (by show V1 136 = _; rw [k1]; exact k0) (by omega)
  exact loop5 (((B 125 1 - (0)) : Int) + 1).toNat ((-2)) (0) (none) M (by omega) (hG) (rfl) (fun z => by omega) (rfl) (by omega)
