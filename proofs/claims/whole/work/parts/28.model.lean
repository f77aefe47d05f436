theorem ec_eq.safe {E F : Nat → Int → Int} (h : ec_eq E F) (hH : 0 ≤ E 0 1) (hc : ec_ok E (ec_calm E)) : ec_safe E ↔ ec_safe F := by
  unfold ec_safe
  rw [h.lst hH hc]
/-- a plain memory with coins for one house, whatever the last asking left -/
def mm_PC (M P : fs_M) (h : Int) : Prop := mm_I P ∧ mm_q M P ∧ ∀ c, -9999 ≤ c → c ≤ 9999 → ec_eq (mm_E (fs_up P 131 h c)) (ec_giv (ec_pl (M 125)) h c) ∧ mm_I (fs_up P 131 h c)
theorem mm_PC.of {M P : fs_M} {h : Int} (hN : fs_NI (M 125)) (p : mm_P M P) (hh : 0 ≤ h ∧ h < 6) : mm_PC M P h := by
  refine ⟨p.I hN, mm_q.P p, fun c c0 c1 => ?_⟩
  obtain ⟨a, b⟩ := mm_coin (h := h) (c := c) (p.I hN) (p.2.2.1 h hh.1 hh.2) hh ⟨c0, c1⟩
  exact ⟨b.tr (ec_giv_eq (p.eq hN) h c), a⟩
theorem fs_up_up {M : fs_M} {r : Nat} {i u v : Int} : fs_up (fs_up M r i u) r i v = fs_up M r i v := by
  funext r' i'
  unfold fs_up
  split <;> rfl
theorem mm_E_of {M V : fs_M} (h : mm_f3 M V) {q c : Int} : mm_E (fs_up V 131 q c) = mm_E (fs_up M 131 q c) ∧ (mm_I (fs_up M 131 q c) → mm_I (fs_up V 131 q c)) := by
  have f : mm_f3 (fs_up M 131 q c) (fs_up V 131 q c) := by
    refine ⟨fun r a b d => ?_, fun i a b d => ?_⟩
    · funext j
      unfold fs_up
      split
      · rfl
      · rw [h.1 r a b d]
    · show V 124 i = M 124 i
      exact h.2 i a b d
  exact ⟨f.E, f.I⟩
theorem mm_PC.go {M P V : fs_M} {h c : Int} (k : mm_PC M P h) (c0 : -9999 ≤ c) (c1 : c ≤ 9999) (f : mm_f3 (fs_up P 131 h c) V) : mm_PC M V h := by
  refine ⟨f.I (k.2.2 c c0 c1).2, k.2.1.u131.tr (mm_q.f3 f), fun u u0 u1 => ?_⟩
  have e := mm_E_of f (q := h) (c := u)
  rw [fs_up_up] at e
  exact ⟨by rw [e.1]; exact (k.2.2 u u0 u1).1, e.2 (k.2.2 u u0 u1).2⟩
theorem mm_PC.safe {M P : fs_M} {h c : Int} (hN : fs_NI (M 125)) (k : mm_PC M P h) (c0 : -9999 ≤ c) (c1 : c ≤ 9999) : ec_safe (mm_E (fs_up P 131 h c)) ↔ ec_safe (ec_giv (ec_pl (M 125)) h c) := by
  obtain ⟨e, i⟩ := k.2.2 c c0 c1
  exact e.safe i.1.2.1.1 (mm_okc i)
theorem fs_m_coinsFor {d : Nat} {M : fs_M} {Q : Option fs_V → fs_M → Prop} {h : Int}  (hI : fs_NI (M 125)) (hq0 : ∀ (M2 : fs_M), (mm_q M M2) → Q (some (.inl (rq_coinsFor (M 125) h))) M2) : fs_W (d + 9) 258 0 [some (.inr (.ref 124)), some (.inl h), none, none, none] [] M Q := by
  have hN := hI
  refine fs_r_call (sta := false) (idx := 237) (as := [.inr (.ref 124), .inl h]) (rest := []) (L1 := [some (.inr (.ref 124)), some (.inl h), none, none, none]) (st1 := [.inl h, .inr (.ref 124)]) (M1 := M) (ob := []) rfl rfl rfl trivial rfl rfl (Nat.le_of_ble_eq_true rfl) ⟨Or.inr (Nat.le_of_ble_eq_true rfl), Or.inr fs_ob124⟩ (by decide) ?_
  refine fs_m_isHouse (by assumption) (fun (f1 : 0 ≤ h ∧ h < M 125 1) => ?_) (fun (f2 : ¬ (0 ≤ h ∧ h < M 125 1)) => ?_)
  · refine fs_r_if (a := 1) (L1 := [some (.inr (.ref 124)), some (.inl h), none, none, none]) (st1 := []) (M1 := M) (ob := []) rfl rfl trivial (fun _ => ?_) (fun h => absurd (by decide : ¬ (1 : Int) = 0) h)
    refine fs_r_call (sta := false) (idx := 252) (as := [.inr (.ref 124)]) (rest := []) (L1 := [some (.inr (.ref 124)), some (.inl h), none, none, none]) (st1 := [.inr (.ref 124)]) (M1 := M) (ob := []) rfl rfl rfl trivial rfl rfl (Nat.le_of_ble_eq_true rfl) ⟨Or.inr (Nat.le_of_ble_eq_true rfl), Or.inr fs_ob124⟩ (by decide) ?_
    refine fs_m_plain (fun (P1 : fs_M) (pp : mm_P M P1) => ?_)
    have hb := hN.2.1.2
    have k0 := mm_PC.of hN pp (h := h) (by omega)
    have i9 := (k0.2.2 9999 (by omega) (by omega)).2
    refine fs_r_call (sta := false) (idx := 321) (as := [.inr (.ref 124)]) (rest := []) (L1 := [some (.inr (.ref 124)), some (.inl h), none, none, none]) (st1 := [.inr (.ref 124)]) (M1 := (fs_up P1 131 h 9999)) (ob := [124 < fs_N ∧ fs_kd 124 = 6, (131 < fs_N ∧ fs_kd 131 = 100) ∧ (0 : Int) ≤ h ∧ h < fs_ln 131]) rfl rfl rfl (fs_oc fs_ob124 (fs_oc (fs_ar131 (by omega) (by omega)) trivial)) rfl rfl (Nat.le_of_ble_eq_true rfl) ⟨Or.inr (Nat.le_of_ble_eq_true rfl), Or.inr fs_ob124⟩ (by decide) ?_
    refine fs_m_noneFalls (i9) (fun (V1 : fs_M) (g1 : mm_f3 (fs_up P1 131 h 9999) V1) (c1 : ec_safe (mm_E (fs_up P1 131 h 9999))) => ?_) (fun (V1 : fs_M) (g1 : mm_f3 (fs_up P1 131 h 9999) V1) (c1 : ¬ ec_safe (mm_E (fs_up P1 131 h 9999))) => ?_)
    
    · refine fs_r_if (a := 1) (L1 := [some (.inr (.ref 124)), some (.inl h), none, none, none]) (st1 := []) (M1 := V1) (ob := []) rfl rfl trivial (fun _ => ?_) (fun h => absurd (by decide : ¬ (1 : Int) = 0) h)
      refine fs_r_nop (L1 := [some (.inr (.ref 124)), some (.inl h), some (.inl 0), some (.inl 9999), none]) (st1 := []) (M1 := V1) (ob := [2 < 5, 3 < 5]) rfl rfl (fs_oc (by decide) (fs_oc (by decide) trivial)) ?_
      have loop39 : ∀ (n39 : Nat) (lo : Int) (hi : Int) (zl4 : Option fs_V) (M3 : fs_M), (0 ≤ lo ∧ lo ≤ hi ∧ hi ≤ 9999) → (mm_PC M M3 h) → (fs_bsL (fun v => ec_safe (ec_giv (ec_pl (M 125)) h v)) (hi - lo).toNat lo hi = fs_bsL (fun v => ec_safe (ec_giv (ec_pl (M 125)) h v)) 9999 0 9999) → hi - lo < (n39 : Int) → fs_W (d + 9) 258 39 [some (.inr (.ref 124)), some (.inl h), some (.inl lo), some (.inl hi), zl4] [] M3 Q := by
        intro n39
        induction n39 with
        | zero =>
          intro lo hi zl4 M3 i0 k2 r0 hm39
          exfalso
          omega
        | succ n39 ih39 =>
          intro lo hi zl4 M3 i0 k2 r0 hm39
          refine fs_r_icmp (a := lo) (y := hi) (L1 := [some (.inr (.ref 124)), some (.inl h), some (.inl lo), some (.inl hi), zl4]) (st1 := []) (M1 := M3) (ob := []) rfl rfl trivial (fun (h3 : hi ≤ lo) => ?_) (fun (h3 : ¬ (hi ≤ lo)) => ?_)
          · refine fs_r_iret (a := lo) (L1 := [some (.inr (.ref 124)), some (.inl h), some (.inl lo), some (.inl hi), zl4]) (M1 := M3) (ob := []) rfl rfl trivial (Or.inl rfl) ?_
            exact fs_qi (by unfold rq_coinsFor; rw [if_pos (by assumption), if_pos ((k0.safe hN (by omega) (by omega)).mp c1), ← r0, show (hi - lo).toNat = 0 by omega]; rfl) (hq0 _ k2.2.1)
          refine fs_r_call (sta := false) (idx := 321) (as := [.inr (.ref 124)]) (rest := []) (L1 := [some (.inr (.ref 124)), some (.inl h), some (.inl lo), some (.inl hi), some (.inl ((lo + hi) / 2))]) (st1 := [.inr (.ref 124)]) (M1 := (fs_up M3 131 h ((lo + hi) / 2))) (ob := [fs_rg (lo + hi), (0 : Int) ≤ (lo + hi), (0 : Int) < 2, 4 < 5, 124 < fs_N ∧ fs_kd 124 = 6, (131 < fs_N ∧ fs_kd 131 = 100) ∧ (0 : Int) ≤ h ∧ h < fs_ln 131]) rfl rfl (fs_exA 6 (o1 := [fs_rg (lo + hi), (0 : Int) ≤ (lo + hi), (0 : Int) < 2, 4 < 5]) (L1 := [some (.inr (.ref 124)), some (.inl h), some (.inl lo), some (.inl hi), some (.inl ((lo + hi) / 2))]) (st1 := []) (M1 := M3) (o2 := [124 < fs_N ∧ fs_kd 124 = 6, (131 < fs_N ∧ fs_kd 131 = 100) ∧ (0 : Int) ≤ h ∧ h < fs_ln 131]) rfl rfl) (fs_oc ⟨by omega, by omega⟩ (fs_oc (by omega) (fs_oc (by omega) (fs_oc (by decide) (fs_oc fs_ob124 (fs_oc (fs_ar131 (by omega) (by omega)) trivial)))))) rfl rfl (Nat.le_of_ble_eq_true rfl) ⟨Or.inr (Nat.le_of_ble_eq_true rfl), Or.inr fs_ob124⟩ (by decide) ?_
          refine fs_m_noneFalls ((k2.2.2 _ (by omega) (by omega)).2) (fun (V2 : fs_M) (g2 : mm_f3 (fs_up M3 131 h ((lo + hi) / 2)) V2) (c2 : ec_safe (mm_E (fs_up M3 131 h ((lo + hi) / 2)))) => ?_) (fun (V2 : fs_M) (g2 : mm_f3 (fs_up M3 131 h ((lo + hi) / 2)) V2) (c2 : ¬ ec_safe (mm_E (fs_up M3 131 h ((lo + hi) / 2)))) => ?_)
          · refine fs_r_if (a := 1) (L1 := [some (.inr (.ref 124)), some (.inl h), some (.inl lo), some (.inl hi), some (.inl ((lo + hi) / 2))]) (st1 := []) (M1 := V2) (ob := []) rfl rfl trivial (fun h => absurd h (by decide : ¬ ((1 : Int) = 0))) (fun _ => ?_)
            refine fs_r_goto (L1 := [some (.inr (.ref 124)), some (.inl h), some (.inl lo), some (.inl ((lo + hi) / 2)), some (.inl ((lo + hi) / 2))]) (st1 := []) (M1 := V2) (ob := [3 < 5]) rfl rfl (fs_oc (by decide) trivial) ?_
            refine fs_r_goto (L1 := [some (.inr (.ref 124)), some (.inl h), some (.inl lo), some (.inl ((lo + hi) / 2)), some (.inl ((lo + hi) / 2))]) (st1 := []) (M1 := V2) (ob := []) rfl rfl trivial ?_
            exact ih39 (lo) (((lo + hi) / 2)) (some (.inl ((lo + hi) / 2))) V2 (by omega) (k2.go (by omega) (by omega) g2) (by rw [← r0]; first | exact (fs_bsL_t (by omega) ((k2.safe hN (by omega) (by omega)).mp c2)).symm | exact (fs_bsL_f (by omega) (fun z => c2 ((k2.safe hN (by omega) (by omega)).mpr z))).symm) (by omega)
          refine fs_r_if (a := 0) (L1 := [some (.inr (.ref 124)), some (.inl h), some (.inl lo), some (.inl hi), some (.inl ((lo + hi) / 2))]) (st1 := []) (M1 := V2) (ob := []) rfl rfl trivial (fun _ => ?_) (fun h => absurd (by decide : (0 : Int) = 0) h)
          refine fs_r_nop (L1 := [some (.inr (.ref 124)), some (.inl h), some (.inl (((lo + hi) / 2) + 1)), some (.inl hi), some (.inl ((lo + hi) / 2))]) (st1 := []) (M1 := V2) (ob := [fs_rg (((lo + hi) / 2) + 1), 2 < 5]) rfl rfl (fs_oc ⟨by omega, by omega⟩ (fs_oc (by decide) trivial)) ?_
          refine fs_r_goto (L1 := [some (.inr (.ref 124)), some (.inl h), some (.inl (((lo + hi) / 2) + 1)), some (.inl hi), some (.inl ((lo + hi) / 2))]) (st1 := []) (M1 := V2) (ob := []) rfl rfl trivial ?_
          exact ih39 ((((lo + hi) / 2) + 1)) (hi) (some (.inl ((lo + hi) / 2))) V2 (by omega) (k2.go (by omega) (by omega) g2) (by rw [← r0]; first | exact (fs_bsL_t (by omega) ((k2.safe hN (by omega) (by omega)).mp c2)).symm | exact (fs_bsL_f (by omega) (fun z => c2 ((k2.safe hN (by omega) (by omega)).mpr z))).symm) (by omega)
      exact loop39 ((((9999) - (0)) : Int) + 1).toNat (0) (9999) (none) V1 (by omega) (k0.go (by omega) (by omega) g1) (rfl) (by omega)
    refine fs_r_if (a := 0) (L1 := [some (.inr (.ref 124)), some (.inl h), none, none, none]) (st1 := []) (M1 := V1) (ob := []) rfl rfl trivial (fun h => absurd h (by decide : ¬ (¬ (0 : Int) = 0))) (fun _ => ?_)
    refine fs_r_iret (a := (-2)) (L1 := [some (.inr (.ref 124)), some (.inl h), none, none, none]) (M1 := V1) (ob := []) rfl rfl trivial (Or.inl rfl) ?_
    exact fs_qi (by unfold rq_coinsFor; rw [if_pos (by assumption), if_neg (fun z => c1 ((k0.safe hN (by omega) (by omega)).mpr z))]) (hq0 _ (k0.go (by omega) (by omega) g1).2.1)
  refine fs_r_if (a := 0) (L1 := [some (.inr (.ref 124)), some (.inl h), none, none, none]) (st1 := []) (M1 := M) (ob := []) rfl rfl trivial (fun h => absurd h (by decide : ¬ (¬ (0 : Int) = 0))) (fun _ => ?_)
  refine fs_r_iret (a := (-1)) (L1 := [some (.inr (.ref 124)), some (.inl h), none, none, none]) (M1 := M) (ob := []) rfl rfl trivial (Or.inl rfl) ?_
  exact fs_qi (by unfold rq_coinsFor; rw [if_neg (by assumption)]) (hq0 _ mm_q.rf)

/-- a state as it is told -/
def ec_told (x y f : Int) : Int → Int := fun i => if i = 4 then f else if i = 0 then x / 1000 else if i = 1 then x % 1000 else if i = 2 then y / 1000 else if i = 3 then y % 1000 else 0
def mm_lim (N : Int → Int) (a : Int) : Int := if a < N 0 then mm_held N a else 0
def mm_isst (N : Int → Int) (x y f : Int) : Prop := 0 ≤ x ∧ 0 ≤ y ∧ (0 ≤ f ∧ f ≤ fs_shl 1 (N 1) - 1) ∧ ∀ a, 0 ≤ a → a < 4 → ec_told x y f a ≤ mm_lim N a
theorem ec_told_at {x y f : Int} : ec_told x y f 0 = x / 1000 ∧ ec_told x y f 1 = x % 1000 ∧ ec_told x y f 2 = y / 1000 ∧ ec_told x y f 3 = y % 1000 ∧ ec_told x y f 4 = f := ⟨rfl, rfl, rfl, rfl, rfl⟩
theorem mm_told_laid {P : fs_M} {x y f : Int} : ∀ q, 0 ≤ q → q < 4 → (fs_up (fs_up (fs_up (fs_up P 129 0 (x / 1000)) 129 1 (x % 1000)) 129 2 (y / 1000)) 129 3 (y % 1000)) 129 q = ec_told x y f q := by
  intro q q0 q1
  simp only [fs_up_at]
  unfold ec_told
  rcases (show q = 0 ∨ q = 1 ∨ q = 2 ∨ q = 3 by omega) with z | z | z | z <;> subst z <;> rfl
theorem fs_m_isLaid {d : Nat} {M : fs_M} {Q : Option fs_V → fs_M → Prop} {x : Int} {y : Int} {f : Int}  (hI : fs_NI (M 125)) (hx : fs_rg x ∧ fs_rg y) (hq0 : ∀ (M2 : fs_M), (mm_isst (M 125) x y f) → (mm_q M M2) → (mm_I M2) → (mm_J M2) → (mm_Z M2) → (ec_eq (mm_E M2) (ec_pl (M 125))) → (mm_st M2 = ec_told x y f) → Q (some (.inl 1)) M2) (hq1 : ∀ (M2 : fs_M), (¬ mm_isst (M 125) x y f) → (mm_q M M2) → Q (some (.inl 0)) M2) : fs_W (d + 2) 242 0 [some (.inr (.ref 124)), some (.inl x), some (.inl y), some (.inl f), none, none] [] M Q := by
  have hN := hI
  obtain ⟨hx1, hy1⟩ := hx
  unfold fs_rg at hx1 hy1
  obtain ⟨⟨hA0, hA1⟩, ⟨hH0, hH1⟩, -⟩ := id hN
  refine fs_r_call (sta := false) (idx := 252) (as := [.inr (.ref 124)]) (rest := []) (L1 := [some (.inr (.ref 124)), some (.inl x), some (.inl y), some (.inl f), none, none]) (st1 := [.inr (.ref 124)]) (M1 := M) (ob := []) rfl rfl rfl trivial rfl rfl (Nat.le_of_ble_eq_true rfl) ⟨Or.inr (Nat.le_of_ble_eq_true rfl), Or.inr fs_ob124⟩ (by decide) ?_
  refine fs_m_plain (fun (P1 : fs_M) (pp : mm_P M P1) => ?_)
  refine fs_r_if (a := x) (L1 := [some (.inr (.ref 124)), some (.inl x), some (.inl y), some (.inl f), none, none]) (st1 := []) (M1 := P1) (ob := []) rfl rfl trivial (fun (h1 : x < 0) => ?_) (fun (h1 : ¬ (x < 0)) => ?_)
  · refine fs_r_iret (a := 0) (L1 := [some (.inr (.ref 124)), some (.inl x), some (.inl y), some (.inl f), none, none]) (M1 := P1) (ob := []) rfl rfl trivial (Or.inr (Or.inl rfl)) ?_
    exact hq1 _ (fun z => by obtain ⟨z1, z2, z3, -⟩ := z; first | omega | (rw [← congrFun pp.N 1] at z3; omega)) (mm_q.P pp)
  refine fs_r_if (a := y) (L1 := [some (.inr (.ref 124)), some (.inl x), some (.inl y), some (.inl f), none, none]) (st1 := []) (M1 := P1) (ob := []) rfl rfl trivial (fun (h2 : y < 0) => ?_) (fun (h2 : ¬ (y < 0)) => ?_)
  · refine fs_r_iret (a := 0) (L1 := [some (.inr (.ref 124)), some (.inl x), some (.inl y), some (.inl f), none, none]) (M1 := P1) (ob := []) rfl rfl trivial (Or.inr (Or.inl rfl)) ?_
    exact hq1 _ (fun z => by obtain ⟨z1, z2, z3, -⟩ := z; first | omega | (rw [← congrFun pp.N 1] at z3; omega)) (mm_q.P pp)
  have n1 := congrFun pp.N 1
  have s6 := fs_shl6 (h := P1 125 1) (by omega) (by omega)
  refine fs_r_call (sta := true) (idx := 68) (as := [.inl f, .inl 0, .inl ((fs_shl 1 (P1 125 1)) - 1)]) (rest := []) (L1 := [some (.inr (.ref 124)), some (.inl x), some (.inl y), some (.inl f), none, none]) (st1 := [.inl ((fs_shl 1 (P1 125 1)) - 1), .inl 0, .inl f]) (M1 := P1) (ob := [124 < fs_N ∧ fs_kd 124 = 6, (125 < fs_N ∧ fs_kd 125 = 100) ∧ (0 : Int) ≤ 1 ∧ 1 < fs_ln 125, fs_rg ((fs_shl 1 (P1 125 1)) - 1)]) rfl rfl (fs_exA 6 (o1 := [124 < fs_N ∧ fs_kd 124 = 6]) (L1 := [some (.inr (.ref 124)), some (.inl x), some (.inl y), some (.inl f), none, none]) (st1 := [.inl 1, .inr (.ref 125), .inl 1, .inl 0, .inl f]) (M1 := P1) (o2 := [(125 < fs_N ∧ fs_kd 125 = 100) ∧ (0 : Int) ≤ 1 ∧ 1 < fs_ln 125, fs_rg ((fs_shl 1 (P1 125 1)) - 1)]) rfl rfl) (fs_oc fs_ob124 (fs_oc (fs_ar125 (by omega) (by omega)) (fs_oc ⟨by omega, by omega⟩ trivial))) rfl rfl (Nat.le_of_ble_eq_true rfl) ⟨Or.inr (Nat.le_of_ble_eq_true rfl), trivial⟩ (by decide) ?_
  refine fs_m_isIn (fun (f3 : 0 ≤ f ∧ f ≤ ((fs_shl 1 (P1 125 1)) - 1)) => ?_) (fun (f4 : ¬ (0 ≤ f ∧ f ≤ ((fs_shl 1 (P1 125 1)) - 1))) => ?_)
  · refine fs_r_if (a := 1) (L1 := [some (.inr (.ref 124)), some (.inl x), some (.inl y), some (.inl f), none, none]) (st1 := []) (M1 := P1) (ob := []) rfl rfl trivial (fun _ => ?_) (fun h => absurd (by decide : ¬ (1 : Int) = 0) h)
    refine fs_r_nop (L1 := [some (.inr (.ref 124)), some (.inl x), some (.inl y), some (.inl f), some (.inl 1), some (.inl 0)]) (st1 := []) (M1 := (fs_up (fs_up (fs_up (fs_up (fs_up P1 129 0 (x / 1000)) 129 1 (x % 1000)) 129 2 (y / 1000)) 129 3 (y % 1000)) 124 15 f)) (ob := [124 < fs_N ∧ fs_kd 124 = 6, (0 : Int) ≤ x, (0 : Int) < 1000, (129 < fs_N ∧ fs_kd 129 = 100) ∧ (0 : Int) ≤ 0 ∧ 0 < fs_ln 129, 124 < fs_N ∧ fs_kd 124 = 6, (0 : Int) ≤ x, (0 : Int) < 1000, (129 < fs_N ∧ fs_kd 129 = 100) ∧ (0 : Int) ≤ 1 ∧ 1 < fs_ln 129, 124 < fs_N ∧ fs_kd 124 = 6, (0 : Int) ≤ y, (0 : Int) < 1000, (129 < fs_N ∧ fs_kd 129 = 100) ∧ (0 : Int) ≤ 2 ∧ 2 < fs_ln 129, 124 < fs_N ∧ fs_kd 124 = 6, (0 : Int) ≤ y, (0 : Int) < 1000, (129 < fs_N ∧ fs_kd 129 = 100) ∧ (0 : Int) ≤ 3 ∧ 3 < fs_ln 129, 124 < fs_N ∧ fs_kd 124 = 6, 4 < 6, 5 < 6]) rfl (fs_exA 6 (o1 := [124 < fs_N ∧ fs_kd 124 = 6, (0 : Int) ≤ x, (0 : Int) < 1000]) (L1 := [some (.inr (.ref 124)), some (.inl x), some (.inl y), some (.inl f), none, none]) (st1 := [.inl (x / 1000), .inl 0, .inr (.ref 129)]) (M1 := P1) (o2 := [(129 < fs_N ∧ fs_kd 129 = 100) ∧ (0 : Int) ≤ 0 ∧ 0 < fs_ln 129, 124 < fs_N ∧ fs_kd 124 = 6, (0 : Int) ≤ x, (0 : Int) < 1000, (129 < fs_N ∧ fs_kd 129 = 100) ∧ (0 : Int) ≤ 1 ∧ 1 < fs_ln 129, 124 < fs_N ∧ fs_kd 124 = 6, (0 : Int) ≤ y, (0 : Int) < 1000, (129 < fs_N ∧ fs_kd 129 = 100) ∧ (0 : Int) ≤ 2 ∧ 2 < fs_ln 129, 124 < fs_N ∧ fs_kd 124 = 6, (0 : Int) ≤ y, (0 : Int) < 1000, (129 < fs_N ∧ fs_kd 129 = 100) ∧ (0 : Int) ≤ 3 ∧ 3 < fs_ln 129, 124 < fs_N ∧ fs_kd 124 = 6, 4 < 6, 5 < 6]) rfl (fs_exA 6 (o1 := [(129 < fs_N ∧ fs_kd 129 = 100) ∧ (0 : Int) ≤ 0 ∧ 0 < fs_ln 129, 124 < fs_N ∧ fs_kd 124 = 6]) (L1 := [some (.inr (.ref 124)), some (.inl x), some (.inl y), some (.inl f), none, none]) (st1 := [.inl 1000, .inl x, .inl 1, .inr (.ref 129)]) (M1 := (fs_up P1 129 0 (x / 1000))) (o2 := [(0 : Int) ≤ x, (0 : Int) < 1000, (129 < fs_N ∧ fs_kd 129 = 100) ∧ (0 : Int) ≤ 1 ∧ 1 < fs_ln 129, 124 < fs_N ∧ fs_kd 124 = 6, (0 : Int) ≤ y, (0 : Int) < 1000, (129 < fs_N ∧ fs_kd 129 = 100) ∧ (0 : Int) ≤ 2 ∧ 2 < fs_ln 129, 124 < fs_N ∧ fs_kd 124 = 6, (0 : Int) ≤ y, (0 : Int) < 1000, (129 < fs_N ∧ fs_kd 129 = 100) ∧ (0 : Int) ≤ 3 ∧ 3 < fs_ln 129, 124 < fs_N ∧ fs_kd 124 = 6, 4 < 6, 5 < 6]) rfl (fs_exA 6 (o1 := [(0 : Int) ≤ x, (0 : Int) < 1000, (129 < fs_N ∧ fs_kd 129 = 100) ∧ (0 : Int) ≤ 1 ∧ 1 < fs_ln 129, 124 < fs_N ∧ fs_kd 124 = 6]) (L1 := [some (.inr (.ref 124)), some (.inl x), some (.inl y), some (.inl f), none, none]) (st1 := [.inl y, .inl 2, .inr (.ref 129)]) (M1 := (fs_up (fs_up P1 129 0 (x / 1000)) 129 1 (x % 1000))) (o2 := [(0 : Int) ≤ y, (0 : Int) < 1000, (129 < fs_N ∧ fs_kd 129 = 100) ∧ (0 : Int) ≤ 2 ∧ 2 < fs_ln 129, 124 < fs_N ∧ fs_kd 124 = 6, (0 : Int) ≤ y, (0 : Int) < 1000, (129 < fs_N ∧ fs_kd 129 = 100) ∧ (0 : Int) ≤ 3 ∧ 3 < fs_ln 129, 124 < fs_N ∧ fs_kd 124 = 6, 4 < 6, 5 < 6]) rfl (fs_exA 6 (o1 := [(0 : Int) ≤ y, (0 : Int) < 1000, (129 < fs_N ∧ fs_kd 129 = 100) ∧ (0 : Int) ≤ 2 ∧ 2 < fs_ln 129, 124 < fs_N ∧ fs_kd 124 = 6]) (L1 := [some (.inr (.ref 124)), some (.inl x), some (.inl y), some (.inl f), none, none]) (st1 := [.inl 3, .inr (.ref 129)]) (M1 := (fs_up (fs_up (fs_up P1 129 0 (x / 1000)) 129 1 (x % 1000)) 129 2 (y / 1000))) (o2 := [(0 : Int) ≤ y, (0 : Int) < 1000, (129 < fs_N ∧ fs_kd 129 = 100) ∧ (0 : Int) ≤ 3 ∧ 3 < fs_ln 129, 124 < fs_N ∧ fs_kd 124 = 6, 4 < 6, 5 < 6]) rfl (fs_exA 6 (o1 := [(0 : Int) ≤ y, (0 : Int) < 1000, (129 < fs_N ∧ fs_kd 129 = 100) ∧ (0 : Int) ≤ 3 ∧ 3 < fs_ln 129]) (L1 := [some (.inr (.ref 124)), some (.inl x), some (.inl y), some (.inl f), none, none]) (st1 := [.inl f, .inr (.ref 124)]) (M1 := (fs_up (fs_up (fs_up (fs_up P1 129 0 (x / 1000)) 129 1 (x % 1000)) 129 2 (y / 1000)) 129 3 (y % 1000))) (o2 := [124 < fs_N ∧ fs_kd 124 = 6, 4 < 6, 5 < 6]) rfl rfl))))) (fs_oc fs_ob124 (fs_oc (by omega) (fs_oc (by omega) (fs_oc (fs_ar129 (by omega) (by omega)) (fs_oc fs_ob124 (fs_oc (by omega) (fs_oc (by omega) (fs_oc (fs_ar129 (by omega) (by omega)) (fs_oc fs_ob124 (fs_oc (by omega) (fs_oc (by omega) (fs_oc (fs_ar129 (by omega) (by omega)) (fs_oc fs_ob124 (fs_oc (by omega) (fs_oc (by omega) (fs_oc (fs_ar129 (by omega) (by omega)) (fs_oc fs_ob124 (fs_oc (by decide) (fs_oc (by decide) trivial))))))))))))))))))) ?_
    have loop87 : ∀ (n87 : Nat) (b : Int) (a : Int) (M3 : fs_M), (0 ≤ a ∧ a ≤ 4) → (mm_f2 P1 M3) → (∀ q, 0 ≤ q → q < 4 → M3 129 q = ec_told x y f q) → (M3 124 15 = f) → ((b = 0 ∨ b = 1) ∧ (b = 1 ↔ ∀ q, 0 ≤ q → q < a → ec_told x y f q ≤ mm_lim (M 125) q)) → 4 - a < (n87 : Int) → fs_W (d + 2) 242 87 [some (.inr (.ref 124)), some (.inl x), some (.inl y), some (.inl f), some (.inl b), some (.inl a)] [] M3 Q := by
      intro n87
      induction n87 with
      | zero =>
        intro b a M3 i0 f3 t3 u3 b0 hm87
        exfalso
        omega
      | succ n87 ih87 =>
        intro b a M3 i0 f3 t3 u3 b0 hm87
        have m0 := congrFun (f3.N.trans pp.N) 0
        have m9 := f3.N.trans pp.N
        skip
        refine fs_r_icmp (a := a) (y := 4) (L1 := [some (.inr (.ref 124)), some (.inl x), some (.inl y), some (.inl f), some (.inl b), some (.inl a)]) (st1 := []) (M1 := M3) (ob := []) rfl rfl trivial (fun (h5 : 4 ≤ a) => ?_) (fun (h5 : ¬ (4 ≤ a)) => ?_)
        · refine fs_r_iret (a := b) (L1 := [some (.inr (.ref 124)), some (.inl x), some (.inl y), some (.inl f), some (.inl b), some (.inl a)]) (M1 := M3) (ob := []) rfl rfl trivial (Or.inr (b0.1)) ?_
          have e9 := pp.eq hN
          have IP := pp.I hN
          have xx : 0 ≤ x ∧ 0 ≤ y ∧ 0 ≤ f ∧ f ≤ fs_shl 1 (P1 125 1) - 1 := by omega
          have e8 : mm_q M M3 := (mm_q.P pp).tr (mm_q.f2 f3)
          rw [show a = 4 by omega] at b0
          rcases b0.1 with z | z
          · rw [z]
            exact hq1 _ (fun w => by have w1 := b0.2.mpr w.2.2.2; omega) e8
          · rw [z]
            have w := b0.2.mp z
            have lz : ∀ a, 0 ≤ a → a < 4 → mm_lim (M 125) a ≤ 360 := fun q q0 q1 => by
              unfold mm_lim
              split
              · exact (mm_held_b hN ⟨q0, q1⟩).2
              · omega
            obtain ⟨r1, r2, r3⟩ := mm_laid (S := ec_told x y f) IP f3 (by rw [u3]; rfl) t3 (fun q q1 q2 => by unfold ec_told; rw [if_neg q2, if_neg (by omega), if_neg (by omega), if_neg (by omega), if_neg (by omega)]) (by show 0 ≤ f ∧ f < 64; omega) (fun q q1 q2 => by
              have l1 := w q q1 (by omega)
              have l2 := lz q q1 q2
              have l3 : 0 ≤ ec_told x y f q := by
                unfold ec_told
                rw [if_neg (by omega)]
                rcases (show q = 0 ∨ q = 1 ∨ q = 2 ∨ q = 3 by omega) with z | z | z | z <;> subst z <;> simp <;> omega
              omega) (fun q q1 q2 => by
              rw [congrFun pp.N 0] at q1
              have l1 := w q (by omega) (by omega)
              have l4 : mm_lim (M 125) q = 0 := if_neg (by omega)
              have l3 : 0 ≤ ec_told x y f q := by
                unfold ec_told
                rw [if_neg (by omega)]
                rcases (show q = 0 ∨ q = 1 ∨ q = 2 ∨ q = 3 by omega) with z | z | z | z <;> subst z <;> simp <;> omega
              omega)
            exact hq0 _ ⟨xx.1, xx.2.1, ⟨xx.2.2.1, by rw [← congrFun pp.N 1]; exact xx.2.2.2⟩, fun q q0 q1 => w q q0 (by omega)⟩ e8 (f3.I IP) r2 r3 (by rw [f3.E]; exact e9) r1
        refine fs_r_if (a := b) (L1 := [some (.inr (.ref 124)), some (.inl x), some (.inl y), some (.inl f), some (.inl b), some (.inl a)]) (st1 := []) (M1 := M3) (ob := []) rfl rfl trivial (fun (h6 : b = 0) => ?_) (fun (h6 : ¬ (b = 0)) => ?_)
        · refine fs_r_nop (L1 := [some (.inr (.ref 124)), some (.inl x), some (.inl y), some (.inl f), some (.inl b), some (.inl a)]) (st1 := [.inl 0]) (M1 := M3) (ob := []) rfl rfl trivial ?_
          refine fs_r_goto (L1 := [some (.inr (.ref 124)), some (.inl x), some (.inl y), some (.inl f), some (.inl 0), some (.inl (a + 1))]) (st1 := []) (M1 := M3) (ob := [4 < 6, fs_rg (a + 1)]) rfl rfl (fs_oc (by decide) (fs_oc ⟨by omega, by omega⟩ trivial)) ?_
          exact ih87 (0) ((a + 1)) M3 (by omega) (f3) (t3) (u3) (by
                have la : ec_told x y f a = M3 129 a := (t3 a (by omega) (by omega)).symm
                have ll : mm_lim (M 125) a = if a < M 125 0 then mm_held (M 125) a else 0 := rfl
                try rw [m9] at *
                refine ⟨by first | exact Or.inl rfl | exact Or.inr rfl, ?_⟩
                first
                  | (refine ⟨fun z q q0 q1 => ?_, fun _ => rfl⟩
                     rcases (show q < a ∨ q = a by omega) with w | w
                     · exact b0.2.mp (by omega) q q0 w
                     · rw [w, la, ll]
                       split <;> omega)
                  | (refine ⟨fun z => absurd z (by decide), fun z => ?_⟩
                     exfalso
                     have w1 := z a (by omega) (by omega)
                     rw [la, ll] at w1
                     have w2 := b0.2.mpr (fun q q0 q1 => z q q0 (by omega))
                     split at w1 <;> omega)) (by omega)
        refine fs_r_icmp (a := a) (y := (M3 125 0)) (L1 := [some (.inr (.ref 124)), some (.inl x), some (.inl y), some (.inl f), some (.inl b), some (.inl a)]) (st1 := [.inl (M3 129 a)]) (M1 := M3) (ob := [124 < fs_N ∧ fs_kd 124 = 6, (129 < fs_N ∧ fs_kd 129 = 100) ∧ (0 : Int) ≤ a ∧ a < fs_ln 129, 124 < fs_N ∧ fs_kd 124 = 6, (125 < fs_N ∧ fs_kd 125 = 100) ∧ (0 : Int) ≤ 0 ∧ 0 < fs_ln 125]) rfl (fs_exA 6 (o1 := [124 < fs_N ∧ fs_kd 124 = 6, (129 < fs_N ∧ fs_kd 129 = 100) ∧ (0 : Int) ≤ a ∧ a < fs_ln 129]) (L1 := [some (.inr (.ref 124)), some (.inl x), some (.inl y), some (.inl f), some (.inl b), some (.inl a)]) (st1 := [.inr (.ref 124), .inl a, .inl (M3 129 a)]) (M1 := M3) (o2 := [124 < fs_N ∧ fs_kd 124 = 6, (125 < fs_N ∧ fs_kd 125 = 100) ∧ (0 : Int) ≤ 0 ∧ 0 < fs_ln 125]) rfl rfl) (fs_oc fs_ob124 (fs_oc (fs_ar129 (by omega) (by omega)) (fs_oc fs_ob124 (fs_oc (fs_ar125 (by omega) (by omega)) trivial)))) (fun (h7 : (M3 125 0) ≤ a) => ?_) (fun (h7 : ¬ ((M3 125 0) ≤ a)) => ?_)
        · refine fs_r_nop (L1 := [some (.inr (.ref 124)), some (.inl x), some (.inl y), some (.inl f), some (.inl b), some (.inl a)]) (st1 := [.inl 0, .inl (M3 129 a)]) (M1 := M3) (ob := []) rfl rfl trivial ?_
          refine fs_r_icmp (a := (M3 129 a)) (y := 0) (L1 := [some (.inr (.ref 124)), some (.inl x), some (.inl y), some (.inl f), some (.inl b), some (.inl a)]) (st1 := []) (M1 := M3) (ob := []) rfl rfl trivial (fun (h8 : 0 < (M3 129 a)) => ?_) (fun (h8 : ¬ (0 < (M3 129 a))) => ?_)
          · refine fs_r_nop (L1 := [some (.inr (.ref 124)), some (.inl x), some (.inl y), some (.inl f), some (.inl b), some (.inl a)]) (st1 := [.inl 0]) (M1 := M3) (ob := []) rfl rfl trivial ?_
            refine fs_r_goto (L1 := [some (.inr (.ref 124)), some (.inl x), some (.inl y), some (.inl f), some (.inl 0), some (.inl (a + 1))]) (st1 := []) (M1 := M3) (ob := [4 < 6, fs_rg (a + 1)]) rfl rfl (fs_oc (by decide) (fs_oc ⟨by omega, by omega⟩ trivial)) ?_
            exact ih87 (0) ((a + 1)) M3 (by omega) (f3) (t3) (u3) (by
                  have la : ec_told x y f a = M3 129 a := (t3 a (by omega) (by omega)).symm
                  have ll : mm_lim (M 125) a = if a < M 125 0 then mm_held (M 125) a else 0 := rfl
                  try rw [m9] at *
                  refine ⟨by first | exact Or.inl rfl | exact Or.inr rfl, ?_⟩
                  first
                    | (refine ⟨fun z q q0 q1 => ?_, fun _ => rfl⟩
                       rcases (show q < a ∨ q = a by omega) with w | w
                       · exact b0.2.mp (by omega) q q0 w
                       · rw [w, la, ll]
                         split <;> omega)
                    | (refine ⟨fun z => absurd z (by decide), fun z => ?_⟩
                       exfalso
                       have w1 := z a (by omega) (by omega)
                       rw [la, ll] at w1
                       have w2 := b0.2.mpr (fun q q0 q1 => z q q0 (by omega))
                       split at w1 <;> omega)) (by omega)
          refine fs_r_goto (L1 := [some (.inr (.ref 124)), some (.inl x), some (.inl y), some (.inl f), some (.inl b), some (.inl a)]) (st1 := [.inl 1]) (M1 := M3) (ob := []) rfl rfl trivial ?_
          refine fs_r_goto (L1 := [some (.inr (.ref 124)), some (.inl x), some (.inl y), some (.inl f), some (.inl 1), some (.inl (a + 1))]) (st1 := []) (M1 := M3) (ob := [4 < 6, fs_rg (a + 1)]) rfl rfl (fs_oc (by decide) (fs_oc ⟨by omega, by omega⟩ trivial)) ?_
          exact ih87 (1) ((a + 1)) M3 (by omega) (f3) (t3) (u3) (by
                have la : ec_told x y f a = M3 129 a := (t3 a (by omega) (by omega)).symm
                have ll : mm_lim (M 125) a = if a < M 125 0 then mm_held (M 125) a else 0 := rfl
                try rw [m9] at *
                refine ⟨by first | exact Or.inl rfl | exact Or.inr rfl, ?_⟩
                first
                  | (refine ⟨fun z q q0 q1 => ?_, fun _ => rfl⟩
                     rcases (show q < a ∨ q = a by omega) with w | w
                     · exact b0.2.mp (by omega) q q0 w
                     · rw [w, la, ll]
                       split <;> omega)
                  | (refine ⟨fun z => absurd z (by decide), fun z => ?_⟩
                     exfalso
                     have w1 := z a (by omega) (by omega)
                     rw [la, ll] at w1
                     have w2 := b0.2.mpr (fun q q0 q1 => z q q0 (by omega))
                     split at w1 <;> omega)) (by omega)
        refine fs_r_call (sta := false) (idx := 205) (as := [.inr (.ref 124), .inl a]) (rest := [.inl (M3 129 a)]) (L1 := [some (.inr (.ref 124)), some (.inl x), some (.inl y), some (.inl f), some (.inl b), some (.inl a)]) (st1 := [.inl a, .inr (.ref 124), .inl (M3 129 a)]) (M1 := M3) (ob := []) rfl rfl rfl trivial rfl rfl (Nat.le_of_ble_eq_true rfl) ⟨Or.inr (Nat.le_of_ble_eq_true rfl), Or.inr fs_ob124⟩ (by decide) ?_
        refine fs_m_heldOf (by rw [f3.N, pp.N]; exact hN) (by omega) ?_
        refine fs_r_goto (L1 := [some (.inr (.ref 124)), some (.inl x), some (.inl y), some (.inl f), some (.inl b), some (.inl a)]) (st1 := [.inl (mm_held (M3 125) a), .inl (M3 129 a)]) (M1 := M3) (ob := []) rfl rfl trivial ?_
        refine fs_r_icmp (a := (M3 129 a)) (y := (mm_held (M3 125) a)) (L1 := [some (.inr (.ref 124)), some (.inl x), some (.inl y), some (.inl f), some (.inl b), some (.inl a)]) (st1 := []) (M1 := M3) (ob := []) rfl rfl trivial (fun (h9 : (mm_held (M3 125) a) < (M3 129 a)) => ?_) (fun (h9 : ¬ ((mm_held (M3 125) a) < (M3 129 a))) => ?_)
        · refine fs_r_nop (L1 := [some (.inr (.ref 124)), some (.inl x), some (.inl y), some (.inl f), some (.inl b), some (.inl a)]) (st1 := [.inl 0]) (M1 := M3) (ob := []) rfl rfl trivial ?_
          refine fs_r_goto (L1 := [some (.inr (.ref 124)), some (.inl x), some (.inl y), some (.inl f), some (.inl 0), some (.inl (a + 1))]) (st1 := []) (M1 := M3) (ob := [4 < 6, fs_rg (a + 1)]) rfl rfl (fs_oc (by decide) (fs_oc ⟨by omega, by omega⟩ trivial)) ?_
          exact ih87 (0) ((a + 1)) M3 (by omega) (f3) (t3) (u3) (by
                have la : ec_told x y f a = M3 129 a := (t3 a (by omega) (by omega)).symm
                have ll : mm_lim (M 125) a = if a < M 125 0 then mm_held (M 125) a else 0 := rfl
                try rw [m9] at *
                refine ⟨by first | exact Or.inl rfl | exact Or.inr rfl, ?_⟩
                first
                  | (refine ⟨fun z q q0 q1 => ?_, fun _ => rfl⟩
                     rcases (show q < a ∨ q = a by omega) with w | w
                     · exact b0.2.mp (by omega) q q0 w
                     · rw [w, la, ll]
                       split <;> omega)
                  | (refine ⟨fun z => absurd z (by decide), fun z => ?_⟩
                     exfalso
                     have w1 := z a (by omega) (by omega)
                     rw [la, ll] at w1
                     have w2 := b0.2.mpr (fun q q0 q1 => z q q0 (by omega))
                     split at w1 <;> omega)) (by omega)
        refine fs_r_goto (L1 := [some (.inr (.ref 124)), some (.inl x), some (.inl y), some (.inl f), some (.inl b), some (.inl a)]) (st1 := [.inl 1]) (M1 := M3) (ob := []) rfl rfl trivial ?_
        refine fs_r_goto (L1 := [some (.inr (.ref 124)), some (.inl x), some (.inl y), some (.inl f), some (.inl 1), some (.inl (a + 1))]) (st1 := []) (M1 := M3) (ob := [4 < 6, fs_rg (a + 1)]) rfl rfl (fs_oc (by decide) (fs_oc ⟨by omega, by omega⟩ trivial)) ?_
        exact ih87 (1) ((a + 1)) M3 (by omega) (f3) (t3) (u3) (by
              have la : ec_told x y f a = M3 129 a := (t3 a (by omega) (by omega)).symm
              have ll : mm_lim (M 125) a = if a < M 125 0 then mm_held (M 125) a else 0 := rfl
              try rw [m9] at *
              refine ⟨by first | exact Or.inl rfl | exact Or.inr rfl, ?_⟩
              first
                | (refine ⟨fun z q q0 q1 => ?_, fun _ => rfl⟩
                   rcases (show q < a ∨ q = a by omega) with w | w
                   · exact b0.2.mp (by omega) q q0 w
                   · rw [w, la, ll]
                     split <;> omega)
                | (refine ⟨fun z => absurd z (by decide), fun z => ?_⟩
                   exfalso
                   have w1 := z a (by omega) (by omega)
                   rw [la, ll] at w1
                   have w2 := b0.2.mpr (fun q q0 q1 => z q q0 (by omega))
                   split at w1 <;> omega)) (by omega)
    exact loop87 (((4 - (0)) : Int) + 1).toNat (1) (0) (fs_up (fs_up (fs_up (fs_up (fs_up P1 129 0 (x / 1000)) 129 1 (x % 1000)) 129 2 (y / 1000)) 129 3 (y % 1000)) 124 15 f) (by omega) (mm_f2.u15 (mm_f2.u129 (mm_f2.u129 (mm_f2.u129 (mm_f2.u129 mm_f2.rf))))) (fun q q0 q1 => by rw [fs_up_other (by decide)]; exact mm_told_laid q q0 q1) (rfl) (⟨Or.inr rfl, fun _ q q0 q1 => by omega, fun _ => rfl⟩) (by omega)
  refine fs_r_if (a := 0) (L1 := [some (.inr (.ref 124)), some (.inl x), some (.inl y), some (.inl f), none, none]) (st1 := []) (M1 := P1) (ob := []) rfl rfl trivial (fun h => absurd h (by decide : ¬ (¬ (0 : Int) = 0))) (fun _ => ?_)
  refine fs_r_iret (a := 0) (L1 := [some (.inr (.ref 124)), some (.inl x), some (.inl y), some (.inl f), none, none]) (M1 := P1) (ob := []) rfl rfl trivial (Or.inr (Or.inl rfl)) ?_
  exact hq1 _ (fun z => by obtain ⟨z1, z2, z3, -⟩ := z; first | omega | (rw [← congrFun pp.N 1] at z3; omega)) (mm_q.P pp)
