theorem fs_up_id {M : fs_M} {r : Nat} {i v : Int} (h : M r i = v) : fs_up M r i v = M := by
  funext r' i'
  unfold fs_up
  split
  · next z => rw [z.1, z.2, h]
  · rfl
theorem fs_c_toNextRow {d : Nat} {M : fs_M} {Q : Option fs_V → fs_M → Prop} {H : Int}  (hH : 1 ≤ H ∧ H ≤ 6) (hb : ∀ q, 0 ≤ q → q < 6 → 0 ≤ M 38 q ∧ M 38 q ≤ 10) (hq0 : ∀ (M2 : fs_M), (∃ i, (1 ≤ i ∧ i < H) ∧ (∀ q, i < q → q < H → M 38 q = 0) ∧ 0 < M 38 i ∧ ∀ q, 0 ≤ q → q < H → M2 38 q = if q + 1 = i then M 38 q + 1 else if q < i then M 38 q else if q + 1 = H then M 38 i - 1 else 0) → (∀ r, r ≠ 38 → M2 r = M r) → (∀ q, H ≤ q → M2 38 q = M 38 q) → Q (some (.inl 1)) M2) (hq1 : ∀ (M2 : fs_M), (∀ q, 1 ≤ q → q < H → M 38 q = 0) → (∀ r, r ≠ 38 → M2 r = M r) → Q (some (.inl 0)) M2) : fs_W (d) 160 0 [some (.inr (.ref 0)), some (.inl H), none, none] [] M Q := by
  refine fs_r_nop (L1 := [some (.inr (.ref 0)), some (.inl H), some (.inl 0), some (.inl (H - 1))]) (st1 := []) (M1 := M) (ob := [2 < 4, fs_rg (H - 1), 3 < 4]) rfl rfl (fs_oc (by decide) (fs_oc ⟨by omega, by omega⟩ (fs_oc (by decide) trivial))) ?_
  have loop6 : ∀ (n6 : Nat) (rest : Int) (i : Int) (M3 : fs_M), (0 ≤ i ∧ i ≤ H - 1) → (rest = 0) → (M3 = M) → (∀ q, i < q → q < H → M 38 q = 0) → i < (n6 : Int) → fs_W (d) 160 6 [some (.inr (.ref 0)), some (.inl H), some (.inl rest), some (.inl i)] [] M3 Q := by
    intro n6
    induction n6 with
    | zero =>
      intro rest i M3 i0 s0 m3 z3 hm6
      exfalso
      omega
    | succ n6 ih6 =>
      intro rest i M3 i0 s0 m3 z3 hm6
      refine fs_r_if (a := i) (L1 := [some (.inr (.ref 0)), some (.inl H), some (.inl rest), some (.inl i)]) (st1 := []) (M1 := M3) (ob := []) rfl rfl trivial (fun (h1 : i ≤ 0) => ?_) (fun (h1 : ¬ (i ≤ 0)) => ?_)
      · refine fs_r_iret (a := 0) (L1 := [some (.inr (.ref 0)), some (.inl H), some (.inl rest), some (.inl i)]) (M1 := M3) (ob := []) rfl rfl trivial (Or.inr (Or.inl rfl)) ?_
        exact hq1 _ (fun q q0 q1 => z3 q (by omega) q1) (fun r q => by rw [m3])
      have b1 := hb i (by omega) (by omega)
      have b2 := hb (i - 1) (by omega) (by omega)
      rw [← m3] at b1 b2
      have u1 : fs_up M3 38 i 0 38 (i - 1) = M3 38 (i - 1) := by rw [fs_up_at, if_neg (by omega)]
      refine fs_r_if (a := (rest + (M3 38 i))) (L1 := [some (.inr (.ref 0)), some (.inl H), some (.inl (rest + (M3 38 i))), some (.inl i)]) (st1 := []) (M1 := (fs_up M3 38 i 0)) (ob := [0 < fs_N ∧ fs_kd 0 = 5, (38 < fs_N ∧ fs_kd 38 = 100) ∧ (0 : Int) ≤ i ∧ i < fs_ln 38, fs_rg (rest + (M3 38 i)), 2 < 4, 0 < fs_N ∧ fs_kd 0 = 5, (38 < fs_N ∧ fs_kd 38 = 100) ∧ (0 : Int) ≤ i ∧ i < fs_ln 38]) rfl (fs_exA 6 (o1 := [0 < fs_N ∧ fs_kd 0 = 5, (38 < fs_N ∧ fs_kd 38 = 100) ∧ (0 : Int) ≤ i ∧ i < fs_ln 38, fs_rg (rest + (M3 38 i))]) (L1 := [some (.inr (.ref 0)), some (.inl H), some (.inl rest), some (.inl i)]) (st1 := [.inl (rest + (M3 38 i))]) (M1 := M3) (o2 := [2 < 4, 0 < fs_N ∧ fs_kd 0 = 5, (38 < fs_N ∧ fs_kd 38 = 100) ∧ (0 : Int) ≤ i ∧ i < fs_ln 38]) rfl rfl) (fs_oc fs_ob0 (fs_oc (fs_ar38 (by omega) (by omega)) (fs_oc ⟨by omega, by omega⟩ (fs_oc (by decide) (fs_oc fs_ob0 (fs_oc (fs_ar38 (by omega) (by omega)) trivial)))))) (fun (h2 : (rest + (M3 38 i)) ≤ 0) => ?_) (fun (h2 : ¬ ((rest + (M3 38 i)) ≤ 0)) => ?_)
      · refine fs_r_goto (L1 := [some (.inr (.ref 0)), some (.inl H), some (.inl (rest + (M3 38 i))), some (.inl (i + (-1)))]) (st1 := []) (M1 := (fs_up M3 38 i 0)) (ob := [fs_rg (i + (-1))]) rfl rfl (fs_oc ⟨by omega, by omega⟩ trivial) ?_
        exact ih6 ((rest + (M3 38 i))) ((i + (-1))) (fs_up M3 38 i 0) (by omega) (by omega) (by rw [fs_up_id (by omega)]; exact m3) (fun q q0 q1 => by rcases (show i < q ∨ q = i by omega) with z | z; exact z3 q z q1; (rw [z, ← m3]; omega)) (by omega)
      refine fs_r_iret (a := 1) (L1 := [some (.inr (.ref 0)), some (.inl H), some (.inl (rest + (M3 38 i))), some (.inl i)]) (M1 := (fs_up (fs_up (fs_up M3 38 i 0) 38 (i - 1) (((fs_up M3 38 i 0) 38 (i - 1)) + 1)) 38 (H - 1) ((rest + (M3 38 i)) - 1))) (ob := [0 < fs_N ∧ fs_kd 0 = 5, fs_rg (i - 1), (38 < fs_N ∧ fs_kd 38 = 100) ∧ (0 : Int) ≤ (i - 1) ∧ (i - 1) < fs_ln 38, fs_rg (((fs_up M3 38 i 0) 38 (i - 1)) + 1), (38 < fs_N ∧ fs_kd 38 = 100) ∧ (0 : Int) ≤ (i - 1) ∧ (i - 1) < fs_ln 38, 0 < fs_N ∧ fs_kd 0 = 5, fs_rg (H - 1), fs_rg ((rest + (M3 38 i)) - 1), (38 < fs_N ∧ fs_kd 38 = 100) ∧ (0 : Int) ≤ (H - 1) ∧ (H - 1) < fs_ln 38]) rfl (fs_exA 6 (o1 := [0 < fs_N ∧ fs_kd 0 = 5, fs_rg (i - 1)]) (L1 := [some (.inr (.ref 0)), some (.inl H), some (.inl (rest + (M3 38 i))), some (.inl i)]) (st1 := [.inl (i - 1), .inr (.ref 38), .inl (i - 1), .inr (.ref 38)]) (M1 := (fs_up M3 38 i 0)) (o2 := [(38 < fs_N ∧ fs_kd 38 = 100) ∧ (0 : Int) ≤ (i - 1) ∧ (i - 1) < fs_ln 38, fs_rg (((fs_up M3 38 i 0) 38 (i - 1)) + 1), (38 < fs_N ∧ fs_kd 38 = 100) ∧ (0 : Int) ≤ (i - 1) ∧ (i - 1) < fs_ln 38, 0 < fs_N ∧ fs_kd 0 = 5, fs_rg (H - 1), fs_rg ((rest + (M3 38 i)) - 1), (38 < fs_N ∧ fs_kd 38 = 100) ∧ (0 : Int) ≤ (H - 1) ∧ (H - 1) < fs_ln 38]) rfl (fs_exA 6 (o1 := [(38 < fs_N ∧ fs_kd 38 = 100) ∧ (0 : Int) ≤ (i - 1) ∧ (i - 1) < fs_ln 38, fs_rg (((fs_up M3 38 i 0) 38 (i - 1)) + 1), (38 < fs_N ∧ fs_kd 38 = 100) ∧ (0 : Int) ≤ (i - 1) ∧ (i - 1) < fs_ln 38, 0 < fs_N ∧ fs_kd 0 = 5]) (L1 := [some (.inr (.ref 0)), some (.inl H), some (.inl (rest + (M3 38 i))), some (.inl i)]) (st1 := [.inr (.ref 38)]) (M1 := (fs_up (fs_up M3 38 i 0) 38 (i - 1) (((fs_up M3 38 i 0) 38 (i - 1)) + 1))) (o2 := [fs_rg (H - 1), fs_rg ((rest + (M3 38 i)) - 1), (38 < fs_N ∧ fs_kd 38 = 100) ∧ (0 : Int) ≤ (H - 1) ∧ (H - 1) < fs_ln 38]) rfl (fs_exA 6 (o1 := [fs_rg (H - 1), fs_rg ((rest + (M3 38 i)) - 1)]) (L1 := [some (.inr (.ref 0)), some (.inl H), some (.inl (rest + (M3 38 i))), some (.inl i)]) (st1 := [.inl ((rest + (M3 38 i)) - 1), .inl (H - 1), .inr (.ref 38)]) (M1 := (fs_up (fs_up M3 38 i 0) 38 (i - 1) (((fs_up M3 38 i 0) 38 (i - 1)) + 1))) (o2 := [(38 < fs_N ∧ fs_kd 38 = 100) ∧ (0 : Int) ≤ (H - 1) ∧ (H - 1) < fs_ln 38]) rfl rfl))) (fs_oc fs_ob0 (fs_oc ⟨by omega, by omega⟩ (fs_oc (fs_ar38 (by omega) (by omega)) (fs_oc ⟨by omega, by omega⟩ (fs_oc (fs_ar38 (by omega) (by omega)) (fs_oc fs_ob0 (fs_oc ⟨by omega, by omega⟩ (fs_oc ⟨by omega, by omega⟩ (fs_oc (fs_ar38 (by omega) (by omega)) trivial))))))))) (Or.inr (Or.inr rfl)) ?_
      refine hq0 _ ⟨i, by omega, z3, by rw [← m3]; omega, fun q q0 q1 => ?_⟩ (fun r q => by rw [fs_up_other q, fs_up_other q, fs_up_other q, m3]) (fun q q0 => by rw [fs_up_at, if_neg (by omega), fs_up_at, if_neg (by omega), fs_up_at, if_neg (by omega), m3])
      rw [← m3]
      rw [fs_up_at, fs_up_at]
      by_cases y1 : q + 1 = i
      · rw [if_neg (by omega), if_pos (by omega), if_pos y1, u1, show i - 1 = q by omega]
      · rw [if_neg y1]
        by_cases y3 : q = H - 1
        · rw [if_pos y3, if_neg (by omega), if_pos (by omega)]
          omega
        · rw [if_neg y3, if_neg (show ¬ q = i - 1 by omega)]
          by_cases y4 : q = i
          · rw [fs_up_at, if_pos y4, if_neg (by omega), if_neg (by omega)]
          · rw [fs_up_at, if_neg y4]
            by_cases y2 : q < i
            · rw [if_pos y2]
            · rw [if_neg y2, if_neg (by omega), m3]
              exact z3 q (by omega) q1
  exact loop6 (((((H - 1))) : Int) + 1).toNat (0) ((H - 1)) M (by omega) (by omega) (rfl) (fun q _ _ => by omega) (by omega)

theorem gv_27 {M M3 : fs_M} {N g : Int → Int} (e : ec_eq (mk M) (ec_pl N)) (f : ∀ r, r ≠ 27 → M3 r = M r) (o : ∀ q, 0 ≤ q → q < N 1 → M3 27 q = M 27 q + g q) : ec_eq (mk M3) (ec_gv (ec_pl N) g) := by
  obtain ⟨h1, h2, h3, h4, h5, h6, h7⟩ := e
  have k : ∀ c, c ≠ 7 → mk M3 c = mk M c := fun c hc => by
    funext i
    unfold mk
    split <;> first | rfl | (rw [f _ (by decide)]; done) | exact absurd rfl hc
  have e0 : mk M 0 0 = N 0 := h1
  have e1 : mk M 0 1 = N 1 := h2
  refine ⟨by rw [k 0 (by decide)]; exact h1, by rw [k 0 (by decide)]; exact h2, by rw [k 0 (by decide)]; exact h3, fun a a0 a1 => ?_, fun h q0 q1 => ?_, fun h a q0 q1 a0 a1 => ?_, fun x h o0 o1 q0 q1 => ?_⟩
  · rw [k 0 (by decide)] at a1
    rw [k 1 (by decide), k 2 (by decide), k 3 (by decide), k 4 (by decide), k 5 (by decide)]
    exact h4 a a0 a1
  · rw [k 0 (by decide)] at q1
    obtain ⟨x1, x2⟩ := h5 h q0 q1
    rw [k 8 (by decide), k 9 (by decide)]
    refine ⟨?_, x2⟩
    show M3 27 h = ec_pl N 7 h + g h
    have x1 : M 27 h = ec_pl N 7 h := x1
    rw [o h q0 (by omega), x1]
  · rw [k 0 (by decide)] at q1 a1
    rw [k 10 (by decide)]
    exact h6 h a q0 q1 a0 a1
  · rw [k 0 (by decide)] at o1 q1
    rw [k 11 (by decide)]
    exact h7 x h o0 o1 q0 q1
theorem gv_k4 {t : Int → Int} {v : Int} (hb : ∀ q, 0 ≤ t q ∧ t q ≤ 4) (hv : 1 ≤ v ∧ v ≤ 999) : gv_k (fun q => t q * v) := fun h h0 h1 => by
  have w := bw_mul (x := t h) (v := v) (hb h) (by omega)
  show 0 ≤ t h * v ∧ t h * v ≤ 9999
  omega
theorem fs_c_lostWithGifts {d : Nat} {M : fs_M} {Q : Option fs_V → fs_M → Prop} {v : Int} {N t : Int → Int} (h1 : M 5 1 = N 1) (hN : fs_NI N) (he : ec_eq (mk M) (ec_pl N)) (hb : ∀ q, 0 ≤ t q ∧ t q ≤ 4) (ht : ∀ q, 0 ≤ q → q < N 1 → M 38 q = t q) (hv : 1 ≤ v ∧ v ≤ 999) (hq0 : ∀ (M2 : fs_M), (mk_f M M2) → Q (some (.inl (gv_l N (fun q => t q * v)))) M2) : fs_W (d + 5) 159 0 [some (.inr (.ref 0)), some (.inl v), none] [] M Q := by
  have hH := hN.2.1
  have bm := eq_b he (pl_bd hN)
  have nm : M 20 1 = N 1 := he.2.1
  have gk := gv_k4 hb hv
  have bE := gv_bd hN gk
  refine fs_r_nop (L1 := [some (.inr (.ref 0)), some (.inl v), some (.inl 0)]) (st1 := []) (M1 := M) (ob := [2 < 3]) rfl rfl (fs_oc (by decide) trivial) ?_
  have loop2 : ∀ (n2 : Nat) (h : Int) (M3 : fs_M), (0 ≤ h ∧ h ≤ N 1) → (∀ r, r ≠ 27 → M3 r = M r) → (∀ q, M3 27 q = M 27 q + (if 0 ≤ q ∧ q < h then t q * v else 0)) → N 1 - h < (n2 : Int) → fs_W (d + 5) 159 2 [some (.inr (.ref 0)), some (.inl v), some (.inl h)] [] M3 Q := by
    intro n2
    induction n2 with
    | zero =>
      intro h M3 i0 f3 o3 hm2
      exfalso
      omega
    | succ n2 ih2 =>
      intro h M3 i0 f3 o3 hm2
      have e5 := congrFun (f3 5 (by decide)) 1
      refine fs_r_icmp (a := h) (y := (M3 5 1)) (L1 := [some (.inr (.ref 0)), some (.inl v), some (.inl h)]) (st1 := []) (M1 := M3) (ob := [0 < fs_N ∧ fs_kd 0 = 5, 5 < fs_N ∧ fs_kd 5 = 0]) rfl rfl (fs_oc fs_ob0 (fs_oc fs_ob5 trivial)) (fun (h1 : (M3 5 1) ≤ h) => ?_) (fun (h1 : ¬ ((M3 5 1) ≤ h)) => ?_)
      · have eM := gv_27 (g := fun q => t q * v) he f3 (fun q q0 q1 => by rw [o3 q, if_pos (by omega)])
        refine fs_r_call (sta := false) (idx := 346) (as := [.inr (.ref 20), .inr (.ref 32), .inr (.ref 34)]) (rest := []) (L1 := [some (.inr (.ref 0)), some (.inl v), some (.inl h)]) (st1 := [.inr (.ref 34), .inr (.ref 32), .inr (.ref 20)]) (M1 := M3) (ob := [0 < fs_N ∧ fs_kd 0 = 5, 0 < fs_N ∧ fs_kd 0 = 5, 0 < fs_N ∧ fs_kd 0 = 5]) rfl rfl rfl (fs_oc fs_ob0 (fs_oc fs_ob0 (fs_oc fs_ob0 trivial))) rfl rfl (Nat.le_of_ble_eq_true rfl) ⟨Or.inr (Nat.le_of_ble_eq_true rfl), Or.inr fs_ob20⟩ (by decide) ?_
        refine fs_c_toLeast (eq_b eM bE) (fun (V : fs_M) (t1 : mk_f M3 V) (t2 : sst V 32 = ec_fix (mk M3) (ec_calm (mk M3))) (t3 : sb V 32) => ?_)
        have d1 := fdE.least bE eM t1 t2 t3
        have v27 : V 27 = M3 27 := t1 27 (by decide) (by decide)
        refine fs_r_nop (L1 := [some (.inr (.ref 0)), some (.inl v), some (.inl 0)]) (st1 := []) (M1 := V) (ob := [2 < 3]) rfl rfl (fs_oc (by decide) trivial) ?_
        have loop53 : ∀ (n53 : Nat) (h : Int) (M5 : fs_M), (0 ≤ h ∧ h ≤ N 1) → (∀ r, r ≠ 27 → M5 r = V r) → (∀ q, M5 27 q = M 27 q + (if h ≤ q ∧ q < N 1 then t q * v else 0)) → N 1 - h < (n53 : Int) → fs_W (d + 5) 159 53 [some (.inr (.ref 0)), some (.inl v), some (.inl h)] [] M5 Q := by
          intro n53
          induction n53 with
          | zero =>
            intro h M5 i1 f5 o5 hm53
            exfalso
            omega
          | succ n53 ih53 =>
            intro h M5 i1 f5 o5 hm53
            have e6 : M5 5 1 = M 5 1 := by rw [f5 5 (by decide), t1 5 (by decide) (by decide), f3 5 (by decide)]
            refine fs_r_icmp (a := h) (y := (M5 5 1)) (L1 := [some (.inr (.ref 0)), some (.inl v), some (.inl h)]) (st1 := []) (M1 := M5) (ob := [0 < fs_N ∧ fs_kd 0 = 5, 5 < fs_N ∧ fs_kd 5 = 0]) rfl rfl (fs_oc fs_ob0 (fs_oc fs_ob5 trivial)) (fun (h2 : (M5 5 1) ≤ h) => ?_) (fun (h2 : ¬ ((M5 5 1) ≤ h)) => ?_)
            · have fB : mk_f M M5 := fun r q1 q2 => by
                by_cases z : r = 27
                · rw [z]
                  funext q
                  rw [o5 q, if_neg (by omega)]
                  omega
                · rw [f5 r z, t1 r q1 q2, f3 r z]
              have sB : sb M5 32 := by
                unfold sb
                rw [f5 32 (by decide), f5 (32 + 1) (by decide)]
                exact t3
              have lB : ec_lost (mk M5) (sst M5 32) = gv_l N (fun q => t q * v) := by
                have s2 : sst M5 32 = ec_lst (ec_gv (ec_pl N) (fun q => t q * v)) := by
                  rw [← d1.2.2.1]
                  unfold sst
                  rw [f5 32 (by decide), f5 (32 + 1) (by decide)]
                rw [s2, fB.E, he.lost]
                rfl
              refine fs_r_call (sta := false) (idx := 279) (as := [.inr (.ref 20), .inr (.ref 32)]) (rest := []) (L1 := [some (.inr (.ref 0)), some (.inl v), some (.inl h)]) (st1 := [.inr (.ref 32), .inr (.ref 20)]) (M1 := M5) (ob := [0 < fs_N ∧ fs_kd 0 = 5, 0 < fs_N ∧ fs_kd 0 = 5]) rfl rfl rfl (fs_oc fs_ob0 (fs_oc fs_ob0 trivial)) rfl rfl (Nat.le_of_ble_eq_true rfl) ⟨Or.inr (Nat.le_of_ble_eq_true rfl), Or.inr fs_ob20⟩ (by decide) ?_
              refine fs_c_lostIn (fB.b bm) (sB) ?_
              refine fs_r_iret (a := (ec_lost (mk M5) (sst M5 32))) (L1 := [some (.inr (.ref 0)), some (.inl v), some (.inl h)]) (M1 := M5) (ob := []) rfl rfl trivial (Or.inl rfl) ?_
              exact fs_qi lB (hq0 _ fB)
            have tm := bw_mul (x := t h) (v := v) (hb h) (by omega)
            have x38 : M5 38 h = t h := by rw [f5 38 (by decide), t1 38 (by decide) (by decide), f3 38 (by decide)]; exact ht h (by omega) (by omega)
            rw [← x38] at tm
            have xn : (-(M5 38 h)) * v = -((M5 38 h) * v) := Int.neg_mul _ _
            have xb := hb h
            rw [← x38] at xb
            have om := (bm.2.2.2.2.1 h (by omega) (by omega)).1
            have o9 := o5 h
            rw [if_pos (by omega), ← x38] at o9
            refine fs_r_call (sta := false) (idx := 337) (as := [.inr (.ref 20), .inl h, .inl ((-(M5 38 h)) * v)]) (rest := []) (L1 := [some (.inr (.ref 0)), some (.inl v), some (.inl h)]) (st1 := [.inl ((-(M5 38 h)) * v), .inl h, .inr (.ref 20)]) (M1 := M5) (ob := [0 < fs_N ∧ fs_kd 0 = 5, 0 < fs_N ∧ fs_kd 0 = 5, (38 < fs_N ∧ fs_kd 38 = 100) ∧ (0 : Int) ≤ h ∧ h < fs_ln 38, fs_rg (-(M5 38 h)), fs_rg ((-(M5 38 h)) * v)]) rfl rfl (fs_exA 6 (o1 := [0 < fs_N ∧ fs_kd 0 = 5, 0 < fs_N ∧ fs_kd 0 = 5]) (L1 := [some (.inr (.ref 0)), some (.inl v), some (.inl h)]) (st1 := [.inl h, .inr (.ref 38), .inl h, .inr (.ref 20)]) (M1 := M5) (o2 := [(38 < fs_N ∧ fs_kd 38 = 100) ∧ (0 : Int) ≤ h ∧ h < fs_ln 38, fs_rg (-(M5 38 h)), fs_rg ((-(M5 38 h)) * v)]) rfl rfl) (fs_oc fs_ob0 (fs_oc fs_ob0 (fs_oc (fs_ar38 (by omega) (by omega)) (fs_oc ⟨by omega, by omega⟩ (fs_oc ⟨by omega, by omega⟩ trivial))))) rfl rfl (Nat.le_of_ble_eq_true rfl) ⟨Or.inr (Nat.le_of_ble_eq_true rfl), Or.inr fs_ob20⟩ (by decide) ?_
            refine fs_c_give (by omega) (by omega) ?_
            refine fs_r_goto (L1 := [some (.inr (.ref 0)), some (.inl v), some (.inl (h + 1))]) (st1 := []) (M1 := (fs_up M5 27 h ((M5 27 h) + ((-(M5 38 h)) * v)))) (ob := [fs_rg (h + 1)]) rfl rfl (fs_oc ⟨by omega, by omega⟩ trivial) ?_
            exact ih53 ((h + 1)) (fs_up M5 27 h ((M5 27 h) + ((-(M5 38 h)) * v))) (by omega) (fun r q => by rw [fs_up_other q]; exact f5 r q) (fun q => by
                   rw [fs_up_at]
                   by_cases z : q = h
                   · rw [if_pos z, z, if_neg (by omega), o9, xn]
                     omega
                   · rw [if_neg z, o5 q]
                     by_cases y : h ≤ q ∧ q < N 1
                     · rw [if_pos y, if_pos (by omega)]
                     · rw [if_neg y, if_neg (by omega)]) (by omega)
        exact loop53 (((N 1 - (0)) : Int) + 1).toNat (0) V (by omega) (fun r _ => rfl) (fun q => by rw [v27, o3 q]; by_cases y : 0 ≤ q ∧ q < N 1; (rw [if_pos (by omega), if_pos (by omega)]); (rw [if_neg (by omega), if_neg (by omega)])) (by omega)
      have tm := bw_mul (x := t h) (v := v) (hb h) (by omega)
      have x38 : M3 38 h = t h := by rw [f3 38 (by decide)]; exact ht h (by omega) (by omega)
      rw [← x38] at tm
      have om := (bm.2.2.2.2.1 h (by omega) (by omega)).1
      have o9 := o3 h
      rw [if_neg (by omega)] at o9
      refine fs_r_call (sta := false) (idx := 337) (as := [.inr (.ref 20), .inl h, .inl ((M3 38 h) * v)]) (rest := []) (L1 := [some (.inr (.ref 0)), some (.inl v), some (.inl h)]) (st1 := [.inl ((M3 38 h) * v), .inl h, .inr (.ref 20)]) (M1 := M3) (ob := [0 < fs_N ∧ fs_kd 0 = 5, 0 < fs_N ∧ fs_kd 0 = 5, (38 < fs_N ∧ fs_kd 38 = 100) ∧ (0 : Int) ≤ h ∧ h < fs_ln 38, fs_rg ((M3 38 h) * v)]) rfl rfl (fs_exA 6 (o1 := [0 < fs_N ∧ fs_kd 0 = 5, 0 < fs_N ∧ fs_kd 0 = 5]) (L1 := [some (.inr (.ref 0)), some (.inl v), some (.inl h)]) (st1 := [.inl h, .inr (.ref 38), .inl h, .inr (.ref 20)]) (M1 := M3) (o2 := [(38 < fs_N ∧ fs_kd 38 = 100) ∧ (0 : Int) ≤ h ∧ h < fs_ln 38, fs_rg ((M3 38 h) * v)]) rfl rfl) (fs_oc fs_ob0 (fs_oc fs_ob0 (fs_oc (fs_ar38 (by omega) (by omega)) (fs_oc ⟨by omega, by omega⟩ trivial)))) rfl rfl (Nat.le_of_ble_eq_true rfl) ⟨Or.inr (Nat.le_of_ble_eq_true rfl), Or.inr fs_ob20⟩ (by decide) ?_
      refine fs_c_give (by omega) (by omega) ?_
      refine fs_r_goto (L1 := [some (.inr (.ref 0)), some (.inl v), some (.inl (h + 1))]) (st1 := []) (M1 := (fs_up M3 27 h ((M3 27 h) + ((M3 38 h) * v)))) (ob := [fs_rg (h + 1)]) rfl rfl (fs_oc ⟨by omega, by omega⟩ trivial) ?_
      exact ih2 ((h + 1)) (fs_up M3 27 h ((M3 27 h) + ((M3 38 h) * v))) (by omega) (fun r q => by rw [fs_up_other q]; exact f3 r q) (fun q => by
             rw [fs_up_at]
             by_cases z : q = h
             · rw [if_pos z, z, if_pos (by omega), o9, x38]
               omega
             · rw [if_neg z, o3 q]
               by_cases y : 0 ≤ q ∧ q < h
               · rw [if_pos y, if_pos (by omega)]
               · rw [if_neg y, if_neg (by omega)]) (by omega)
  exact loop2 (((N 1 - (0)) : Int) + 1).toNat (0) M (by omega) (fun r _ => rfl) (fun q => by rw [if_neg (by omega)]; omega) (by omega)

theorem ec_ns_nn {E : Nat → Int → Int} {S : Int → Int} {a : Int} (hE : ec_bd E) : 0 ≤ ec_ns E S a := (mk_ns_b (M := fun r i => E (r - 20) i) (S := S) (a := a) hE).1
theorem ec_it_nn {E : Nat → Int → Int} (hE : ec_bd E) : ∀ (k : Nat) (a : Int), 0 ≤ a → a < 4 → 0 ≤ ec_it E (ec_calm E) k a
  | 0, a, a0, a1 => by
    show 0 ≤ (if a = 4 then E 0 2 else 0)
    rw [if_neg (by omega)]
    omega
  | k + 1, a, a0, a1 => by
    show 0 ≤ (if a = 4 then _ else ec_ns E (ec_it E (ec_calm E) k) a)
    rw [if_neg (by omega)]
    exact ec_ns_nn hE
theorem ec_lost_nn {E : Nat → Int → Int} {S : Int → Int} (hE : ec_bd E) (hS : ∀ a, 0 ≤ a → a < 4 → 0 ≤ S a) : 0 ≤ ec_lost E S := by
  have hA := hE.1
  exact (mk_lost_b (M := fun r i => E (r - 20) i) (S := S) (n := (E 0 0).toNat) hE hS (by show ((E 0 0).toNat : Int) ≤ E 0 0; omega)).1
theorem gv_l_nn {N g : Int → Int} (hN : fs_NI N) (hg : gv_k g) : 0 ≤ gv_l N g := by
  have hE := gv_bd hN hg
  exact ec_lost_nn hE (fun a a0 a1 => ec_it_nn hE _ a a0 a1)
theorem bw_skip {N : Int → Int} {n v a : Int} (h0 : 0 ≤ a) : ∀ k : Nat, (∀ d, a ≤ d → d < a + k → bw_s (N 1) (n + 1) d ≠ n) → bw_m N n v (a + k).toNat = bw_m N n v a.toNat ∧ bw_r N n v (a + k).toNat = bw_r N n v a.toNat
  | 0, _ => by rw [show a + ((0 : Nat) : Int) = a by omega]; exact ⟨rfl, rfl⟩
  | k + 1, h => by
    have ih := bw_skip (v := v) h0 k (fun d d0 d1 => h d d0 (by omega))
    rw [show a + ((k + 1 : Nat) : Int) = a + k + 1 by omega, bw_m_s (by omega), bw_r_s (by omega)]
    have w := h (a + k) (by omega) (by omega)
    rw [if_neg (fun z => w z.1), if_neg (fun z => w z.1)]
    exact ih
theorem bw_to {N : Int → Int} {n v a b : Int} (h0 : 0 ≤ a) (hab : a ≤ b) (h : ∀ d, a ≤ d → d < b → bw_s (N 1) (n + 1) d ≠ n) : bw_m N n v b.toNat = bw_m N n v a.toNat ∧ bw_r N n v b.toNat = bw_r N n v a.toNat := by
  have w := bw_skip (v := v) h0 (b - a).toNat (fun d d0 d1 => h d d0 (by omega))
  rw [show a + (((b - a).toNat : Nat) : Int) = b by omega] at w
  exact w
theorem bw_stop {N : Int → Int} {n v a : Int} (h0 : 0 ≤ a) (z : bw_m N n v a.toNat = 0) (nn : ∀ c, 0 ≤ bw_l N (n + 1) v c) : ∀ k : Nat, bw_m N n v (a + k).toNat = 0 ∧ bw_r N n v (a + k).toNat = bw_r N n v a.toNat
  | 0 => by rw [show a + ((0 : Nat) : Int) = a by omega]; exact ⟨z, rfl⟩
  | k + 1 => by
    have ih := bw_stop h0 z nn k
    have w := nn (a + k)
    rw [show a + ((k + 1 : Nat) : Int) = a + k + 1 by omega, bw_m_s (by omega), bw_r_s (by omega), if_neg (by omega), if_neg (by omega)]
    exact ih
theorem bw_st2 {N : Int → Int} {n v a b : Int} (h0 : 0 ≤ a) (hab : a ≤ b) (z : bw_m N n v a.toNat = 0) (nn : ∀ c, 0 ≤ bw_l N (n + 1) v c) : bw_m N n v b.toNat = 0 ∧ bw_r N n v b.toNat = bw_r N n v a.toNat := by
  have w := bw_stop h0 z nn (b - a).toNat
  rw [show a + (((b - a).toNat : Nat) : Int) = b by omega] at w
  exact w
theorem fs_c_findBestGifts {d : Nat} {M : fs_M} {Q : Option fs_V → fs_M → Prop} {n : Int} {v : Int} {N : Int → Int} (h1 : M 5 1 = N 1) (hN : fs_NI N) (he : ec_eq (mk M) (ec_pl N)) (hp : 0 < N 1) (hn : 0 ≤ n ∧ n ≤ 4) (hv : 1 ≤ v ∧ v ≤ 999) (hq0 : ∀ (M2 : fs_M), (cq M M2) → (∀ q, 0 ≤ q → q < N 1 → M2 39 q = bw_g (N 1) (n + 1) (bw_r N n v ((n + 1) ^ (N 1).toNat).toNat) q) → Q (some (.inl (bw_m N n v ((n + 1) ^ (N 1).toNat).toNat))) M2) : fs_W (d + 6) 158 0 [some (.inr (.ref 0)), some (.inl n), some (.inl v), none, none, none] [] M Q := by
  have hH := hN.2.1
  have gs := gr_start (H := N 1) (n := n) (by omega) hn
  obtain ⟨gs1, gs2, gs3, gs4⟩ := gs
  have tb : ∀ c q, 0 ≤ bw_g (N 1) (n + 1) c q ∧ bw_g (N 1) (n + 1) c q ≤ 4 := fun c q => by
    have w := bw_g_b (H := N 1) (c := c) (show 0 < n + 1 by omega) q
    omega
  have nn : ∀ c, 0 ≤ bw_l N (n + 1) v c := fun c => gv_l_nn hN (gv_k4 (tb c) hv)
  have e0 : bw_m N n v (n + 1).toNat = bw_l N (n + 1) v n ∧ bw_r N n v (n + 1).toNat = n := by
    have w := bw_to (N := N) (n := n) (v := v) (a := 0) (b := n) (by omega) (by omega) (fun d d0 d1 => gs3 d d0 d1)
    have w1 : bw_m N n v n.toNat = -1 := w.1
    rw [bw_m_s (by omega), bw_r_s (by omega), if_pos ⟨gs2, Or.inl w1⟩, if_pos ⟨gs2, Or.inl w1⟩]
    exact ⟨rfl, rfl⟩
  refine fs_r_call (sta := true) (idx := 268) (as := [.inr (.ref 38)]) (rest := []) (L1 := [some (.inr (.ref 0)), some (.inl n), some (.inl v), none, none, none]) (st1 := [.inr (.ref 38)]) (M1 := M) (ob := [0 < fs_N ∧ fs_kd 0 = 5]) rfl rfl rfl (fs_oc fs_ob0 trivial) rfl rfl (Nat.le_of_ble_eq_true rfl) ⟨Or.inr (Nat.le_of_ble_eq_true rfl), trivial⟩ (by decide) ?_
  refine fs_c_clear (n := 6) (by first | assumption | exact ⟨by decide, by decide, by decide⟩) (by omega) ?_
  have c51 : fs_cl M 38 6 5 1 = M 5 1 := congrFun (fs_cl_o (by decide)) 1
  refine fs_r_call (sta := true) (idx := 421) (as := [.inr (.ref 38), .inr (.ref 39)]) (rest := []) (L1 := [some (.inr (.ref 0)), some (.inl n), some (.inl v), none, none, none]) (st1 := [.inr (.ref 39), .inr (.ref 38)]) (M1 := (fs_up (fs_cl M 38 6) 38 (((fs_cl M 38 6) 5 1) - 1) n)) (ob := [0 < fs_N ∧ fs_kd 0 = 5, 0 < fs_N ∧ fs_kd 0 = 5, 5 < fs_N ∧ fs_kd 5 = 0, fs_rg (((fs_cl M 38 6) 5 1) - 1), (38 < fs_N ∧ fs_kd 38 = 100) ∧ (0 : Int) ≤ (((fs_cl M 38 6) 5 1) - 1) ∧ (((fs_cl M 38 6) 5 1) - 1) < fs_ln 38, 0 < fs_N ∧ fs_kd 0 = 5, 0 < fs_N ∧ fs_kd 0 = 5]) rfl rfl (fs_exA 6 (o1 := [0 < fs_N ∧ fs_kd 0 = 5, 0 < fs_N ∧ fs_kd 0 = 5, 5 < fs_N ∧ fs_kd 5 = 0]) (L1 := [some (.inr (.ref 0)), some (.inl n), some (.inl v), none, none, none]) (st1 := [.inl 1, .inl ((fs_cl M 38 6) 5 1), .inr (.ref 38)]) (M1 := (fs_cl M 38 6)) (o2 := [fs_rg (((fs_cl M 38 6) 5 1) - 1), (38 < fs_N ∧ fs_kd 38 = 100) ∧ (0 : Int) ≤ (((fs_cl M 38 6) 5 1) - 1) ∧ (((fs_cl M 38 6) 5 1) - 1) < fs_ln 38, 0 < fs_N ∧ fs_kd 0 = 5, 0 < fs_N ∧ fs_kd 0 = 5]) rfl rfl) (fs_oc fs_ob0 (fs_oc fs_ob0 (fs_oc fs_ob5 (fs_oc ⟨by omega, by omega⟩ (fs_oc (fs_ar38 (by omega) (by omega)) (fs_oc fs_ob0 (fs_oc fs_ob0 trivial))))))) rfl rfl (Nat.le_of_ble_eq_true rfl) ⟨Or.inr (Nat.le_of_ble_eq_true rfl), trivial⟩ (by decide) ?_
  refine fs_c_copyAll (n := 6) (by first | assumption | exact ⟨by decide, by decide, by decide⟩) (by first | assumption | exact ⟨by decide, by decide, by decide⟩) (by first | decide | omega) (by omega) ?_
  have mq : cq M (fs_cp (fs_up (fs_cl M 38 6) 38 ((fs_cl M 38 6 5 1) - 1) n) 38 39 6) := fun r z => by rw [fs_cp_o (by omega), fs_up_other (by omega), fs_cl_o (by omega)]
  have eA : ec_eq (mk (fs_cp (fs_up (fs_cl M 38 6) 38 ((fs_cl M 38 6 5 1) - 1) n) 38 39 6)) (ec_pl N) := by rw [mk_eq (M := M) (fun r a b c => by rw [fs_cp_o (by omega), fs_up_other (by omega), fs_cl_o (by omega)])]; exact he
  have tA : ∀ q, 0 ≤ q → q < N 1 → (fs_cp (fs_up (fs_cl M 38 6) 38 ((fs_cl M 38 6 5 1) - 1) n) 38 39 6) 38 q = bw_g (N 1) (n + 1) n q := fun q q0 q1 => by
    rw [fs_cp_o (by decide), fs_up_at, fs_cl_i q0 (by omega), gs4 q q0 q1, c51, h1]
  have tB : ∀ q, 0 ≤ q → q < 6 → (fs_cp (fs_up (fs_cl M 38 6) 38 ((fs_cl M 38 6 5 1) - 1) n) 38 39 6) 39 q = (fs_cp (fs_up (fs_cl M 38 6) 38 ((fs_cl M 38 6 5 1) - 1) n) 38 39 6) 38 q ∧ 0 ≤ (fs_cp (fs_up (fs_cl M 38 6) 38 ((fs_cl M 38 6 5 1) - 1) n) 38 39 6) 38 q ∧ (fs_cp (fs_up (fs_cl M 38 6) 38 ((fs_cl M 38 6 5 1) - 1) n) 38 39 6) 38 q ≤ 10 := fun q q0 q1 => by
    rw [fs_cp_i q0 q1, fs_cp_o (by decide), fs_up_at, fs_cl_i q0 q1]
    refine ⟨rfl, ?_⟩
    split <;> omega
  refine fs_r_call (sta := false) (idx := 425) (as := [.inr (.ref 0), .inl v]) (rest := []) (L1 := [some (.inr (.ref 0)), some (.inl n), some (.inl v), none, none, none]) (st1 := [.inl v, .inr (.ref 0)]) (M1 := (fs_cp (fs_up (fs_cl M 38 6) 38 (((fs_cl M 38 6) 5 1) - 1) n) 38 39 6)) (ob := []) rfl rfl rfl trivial rfl rfl (Nat.le_of_ble_eq_true rfl) ⟨Or.inr (Nat.le_of_ble_eq_true rfl), Or.inr fs_ob0⟩ (by decide) ?_
  refine fs_c_lostWithGifts (N := N) (t := (bw_g (N 1) (n + 1) n)) (by show M 5 1 = N 1; exact h1) (by assumption) (eA) (tb n) (tA) (by omega) (fun (V : fs_M) (vf : mk_f (fs_cp (fs_up (fs_cl M 38 6) 38 (((fs_cl M 38 6) 5 1) - 1) n) 38 39 6) V) => ?_)
  refine fs_r_nop (L1 := [some (.inr (.ref 0)), some (.inl n), some (.inl v), some (.inl (gv_l N (fun q => (bw_g (N 1) (n + 1) n) q * v))), some (.inl 1), none]) (st1 := []) (M1 := V) (ob := [3 < 6, 4 < 6]) rfl rfl (fs_oc (by decide) (fs_oc (by decide) trivial)) ?_
  have loop42 : ∀ (n42 : Nat) (m : Int) (i : Int) (zl5 : Option fs_V) (M3 : fs_M) (f : Nat) (c : Int), (1 ≤ i ∧ i + (f : Int) ≤ 131) → (cq M M3) → (ec_eq (mk M3) (ec_pl N)) → (gr (N 1) n f c) → (∀ q, 0 ≤ q → q < N 1 → M3 38 q = bw_g (N 1) (n + 1) c q) → (∀ q, 0 ≤ q → q < 6 → 0 ≤ M3 38 q ∧ M3 38 q ≤ 10) → (m = bw_m N n v (c + 1).toNat ∧ 0 ≤ m) → (∀ q, 0 ≤ q → q < N 1 → M3 39 q = bw_g (N 1) (n + 1) (bw_r N n v (c + 1).toNat) q) → (f : Int) < (n42 : Int) → fs_W (d + 6) 158 42 [some (.inr (.ref 0)), some (.inl n), some (.inl v), some (.inl m), some (.inl i), zl5] [] M3 Q := by
    intro n42
    induction n42 with
    | zero =>
      intro m i zl5 M3 f c i0 q3 e3 g3 t3 b3 m3 r3 hm42
      exfalso
      omega
    | succ n42 ih42 =>
      intro m i zl5 M3 f c i0 q3 e3 g3 t3 b3 m3 r3 hm42
      have e51 : M3 5 1 = N 1 := by { have := congrFun (q3 5 (by decide)) 1; omega }
      have fp := gr_f g3
      refine fs_r_icmp (a := i) (y := 1000) (L1 := [some (.inr (.ref 0)), some (.inl n), some (.inl v), some (.inl m), some (.inl i), zl5]) (st1 := []) (M1 := M3) (ob := []) rfl rfl trivial (fun (h1 : 1000 ≤ i) => ?_) (fun (h1 : ¬ (1000 ≤ i)) => ?_)
      · refine fs_r_iret (a := m) (L1 := [some (.inr (.ref 0)), some (.inl n), some (.inl v), some (.inl m), some (.inl i), zl5]) (M1 := M3) (ob := []) rfl rfl trivial (Or.inl rfl) ?_
        first
          | (exfalso; omega)
          | (have mz : m = 0 := by omega
             have w := bw_st2 (N := N) (n := n) (v := v) (a := c + 1) (b := (n + 1) ^ (N 1).toNat) (by have := g3.2.2.1; omega) (by have := g3.2.2.2.1; omega) (by rw [← m3.1]; exact mz) nn
             exact fs_qi (by rw [w.1]; exact mz) (hq0 _ q3 (fun q q0 q1 => by rw [w.2]; exact r3 q q0 q1)))
          | (have gz : ∀ q, 1 ≤ q → q < N 1 → bw_g (N 1) (n + 1) c q = 0 := fun q q0 q1 => by rw [← t3 q (by omega) q1]; exact tz q q0 (by omega)
             have w := bw_to (N := N) (n := n) (v := v) (a := c + 1) (b := (n + 1) ^ (N 1).toNat) (by have := g3.2.2.1; omega) (by have := g3.2.2.2.1; omega) (fun d d0 d1 => gr_end g3 gz d (by omega) d1)
             exact fs_qi (by rw [w.1]; exact m3.1) (hq0 _ (q3.tr (fun r z => tf r (by omega))) (fun q q0 q1 => by rw [w.2, tf 39 (by decide)]; exact r3 q q0 q1)))
      refine fs_r_if (a := m) (L1 := [some (.inr (.ref 0)), some (.inl n), some (.inl v), some (.inl m), some (.inl i), zl5]) (st1 := []) (M1 := M3) (ob := []) rfl rfl trivial (fun (h2 : m ≤ 0) => ?_) (fun (h2 : ¬ (m ≤ 0)) => ?_)
      · refine fs_r_iret (a := m) (L1 := [some (.inr (.ref 0)), some (.inl n), some (.inl v), some (.inl m), some (.inl i), zl5]) (M1 := M3) (ob := []) rfl rfl trivial (Or.inl rfl) ?_
        first
          | (exfalso; omega)
          | (have mz : m = 0 := by omega
             have w := bw_st2 (N := N) (n := n) (v := v) (a := c + 1) (b := (n + 1) ^ (N 1).toNat) (by have := g3.2.2.1; omega) (by have := g3.2.2.2.1; omega) (by rw [← m3.1]; exact mz) nn
             exact fs_qi (by rw [w.1]; exact mz) (hq0 _ q3 (fun q q0 q1 => by rw [w.2]; exact r3 q q0 q1)))
          | (have gz : ∀ q, 1 ≤ q → q < N 1 → bw_g (N 1) (n + 1) c q = 0 := fun q q0 q1 => by rw [← t3 q (by omega) q1]; exact tz q q0 (by omega)
             have w := bw_to (N := N) (n := n) (v := v) (a := c + 1) (b := (n + 1) ^ (N 1).toNat) (by have := g3.2.2.1; omega) (by have := g3.2.2.2.1; omega) (fun d d0 d1 => gr_end g3 gz d (by omega) d1)
             exact fs_qi (by rw [w.1]; exact m3.1) (hq0 _ (q3.tr (fun r z => tf r (by omega))) (fun q q0 q1 => by rw [w.2, tf 39 (by decide)]; exact r3 q q0 q1)))
      have bb : ∀ q, 0 ≤ q → q < 6 → 0 ≤ M3 38 q ∧ M3 38 q ≤ 10 := b3
      refine fs_r_call (sta := false) (idx := 428) (as := [.inr (.ref 0), .inl (M3 5 1)]) (rest := []) (L1 := [some (.inr (.ref 0)), some (.inl n), some (.inl v), some (.inl m), some (.inl i), zl5]) (st1 := [.inl (M3 5 1), .inr (.ref 0)]) (M1 := M3) (ob := [0 < fs_N ∧ fs_kd 0 = 5, 5 < fs_N ∧ fs_kd 5 = 0]) rfl rfl rfl (fs_oc fs_ob0 (fs_oc fs_ob5 trivial)) rfl rfl (Nat.le_of_ble_eq_true rfl) ⟨Or.inr (Nat.le_of_ble_eq_true rfl), Or.inr fs_ob0⟩ (by decide) ?_
      refine fs_c_toNextRow (by omega) (bb) (fun (T : fs_M) (tw : ∃ i, (1 ≤ i ∧ i < (M3 5 1)) ∧ (∀ q, i < q → q < (M3 5 1) → M3 38 q = 0) ∧ 0 < M3 38 i ∧ ∀ q, 0 ≤ q → q < (M3 5 1) → T 38 q = if q + 1 = i then M3 38 q + 1 else if q < i then M3 38 q else if q + 1 = (M3 5 1) then M3 38 i - 1 else 0) (tf : ∀ r, r ≠ 38 → T r = M3 r) (to : ∀ q, (M3 5 1) ≤ q → T 38 q = M3 38 q) => ?_) (fun (T : fs_M) (tz : ∀ q, 1 ≤ q → q < (M3 5 1) → M3 38 q = 0) (tf : ∀ r, r ≠ 38 → T r = M3 r) => ?_)
      · refine fs_r_if (a := 1) (L1 := [some (.inr (.ref 0)), some (.inl n), some (.inl v), some (.inl m), some (.inl i), zl5]) (st1 := []) (M1 := T) (ob := []) rfl rfl trivial (fun h => absurd h (by decide : ¬ ((1 : Int) = 0))) (fun _ => ?_)
        obtain ⟨i9, w1, w2, w3, w4⟩ := tw
        have gz : ∀ q, i9 < q → q < N 1 → bw_g (N 1) (n + 1) c q = 0 := fun q q0 q1 => by rw [← t3 q (by omega) q1]; exact w2 q q0 (by omega)
        have gp : 0 < bw_g (N 1) (n + 1) c i9 := by rw [← t3 i9 (by omega) (by omega)]; exact w3
        obtain ⟨f2, c2, z1, z2, z3, z4, z5, z6⟩ := gr_go g3 (by omega) gz gp
        have tT : ∀ q, 0 ≤ q → q < N 1 → T 38 q = bw_g (N 1) (n + 1) c2 q := fun q q0 q1 => by
          rw [w4 q q0 (by omega), z6 q q0 q1, t3 q q0 q1, t3 i9 (by omega) (by omega), e51]
        have eT : ec_eq (mk T) (ec_pl N) := by rw [mk_eq (M := M3) (fun r a b c => tf r (by omega))]; exact e3
        have mm := bw_to (N := N) (n := n) (v := v) (a := c + 1) (b := c2) (by have := g3.2.2.1; omega) (by omega) (fun d d0 d1 => z5 d (by omega) d1)
        have ms := bw_m_s (N := N) (n := n) (v := v) (c := c2) (by have := g3.2.2.1; omega)
        have rs := bw_r_s (N := N) (n := n) (v := v) (c := c2) (by have := g3.2.2.1; omega)
        rw [mm.1, ← m3.1] at ms rs
        rw [mm.2] at rs
        have t39 : T 39 = M3 39 := tf 39 (by decide)
        have c20 : 0 ≤ c2 := by have := g3.2.2.1; omega
        have bT : ∀ q, N 1 ≤ q → q < 6 → 0 ≤ T 38 q ∧ T 38 q ≤ 10 := fun q q0 q1 => by { rw [to q (by omega)]; exact bb q (by omega) q1 }
        refine fs_r_call (sta := false) (idx := 425) (as := [.inr (.ref 0), .inl v]) (rest := []) (L1 := [some (.inr (.ref 0)), some (.inl n), some (.inl v), some (.inl m), some (.inl i), zl5]) (st1 := [.inl v, .inr (.ref 0)]) (M1 := T) (ob := []) rfl rfl rfl trivial rfl rfl (Nat.le_of_ble_eq_true rfl) ⟨Or.inr (Nat.le_of_ble_eq_true rfl), Or.inr fs_ob0⟩ (by decide) ?_
        refine fs_c_lostWithGifts (N := N) (t := (bw_g (N 1) (n + 1) c2)) (by have := congrFun (tf 5 (by decide)) 1; omega) (by assumption) (eT) (tb c2) (tT) (by omega) (fun (U : fs_M) (uf : mk_f T U) => ?_)
        have lx : gv_l N (fun q => bw_g (N 1) (n + 1) c2 q * v) = bw_l N (n + 1) v c2 := rfl
        have nx := nn c2
        have q4 : cq M U := (q3.tr (fun r z => tf r (by omega))).tr (cq.f uf)
        have e4 : ec_eq (mk U) (ec_pl N) := by rw [uf.E]; exact eT
        have u38 : U 38 = T 38 := uf 38 (by decide) (by decide)
        have u39 : U 39 = M3 39 := (uf 39 (by decide) (by decide)).trans t39
        have b4 : ∀ q, 0 ≤ q → q < 6 → 0 ≤ U 38 q ∧ U 38 q ≤ 10 := fun q q0 q1 => by
          rw [u38]
          by_cases y : q < N 1
          · have w := tb c2 q
            rw [tT q q0 y]
            omega
          · exact bT q (by omega) q1
        refine fs_r_icmp (a := (gv_l N (fun q => (bw_g (N 1) (n + 1) c2) q * v))) (y := m) (L1 := [some (.inr (.ref 0)), some (.inl n), some (.inl v), some (.inl m), some (.inl i), some (.inl (gv_l N (fun q => (bw_g (N 1) (n + 1) c2) q * v)))]) (st1 := []) (M1 := U) (ob := [5 < 6]) rfl rfl (fs_oc (by decide) trivial) (fun (h3 : m ≤ (gv_l N (fun q => (bw_g (N 1) (n + 1) c2) q * v))) => ?_) (fun (h3 : ¬ (m ≤ (gv_l N (fun q => (bw_g (N 1) (n + 1) c2) q * v)))) => ?_)
        · refine fs_r_goto (L1 := [some (.inr (.ref 0)), some (.inl n), some (.inl v), some (.inl m), some (.inl (i + 1)), some (.inl (gv_l N (fun q => (bw_g (N 1) (n + 1) c2) q * v)))]) (st1 := []) (M1 := U) (ob := [fs_rg (i + 1)]) rfl rfl (fs_oc ⟨by omega, by omega⟩ trivial) ?_
          exact ih42 (m) ((i + 1)) (some (.inl (gv_l N (fun q => (bw_g (N 1) (n + 1) c2) q * v)))) U (f2) (c2) (by omega) (by first | exact q4 | exact fun r z => by rw [fs_cp_o (by omega)]; exact q4 r z) (by first | exact e4 | (rw [mk_eq (M := U) (fun r a b c => fs_cp_o (by omega))]; exact e4)) (z2) (fun q q0 q1 => by first | (rw [u38]; exact tT q q0 q1) | (rw [fs_cp_o (by decide), u38]; exact tT q q0 q1)) (by first | exact b4 | exact fun q q0 q1 => by rw [fs_cp_o (by decide)]; exact b4 q q0 q1) (by rw [ms]; first | (rw [if_neg (by omega)]; exact ⟨rfl, by omega⟩) | (rw [if_pos ⟨z4, Or.inr (by omega)⟩]; exact ⟨rfl, nx⟩)) (fun q q0 q1 => by
                 rw [rs]
                 first
                   | (rw [if_neg (by omega), u39]; exact r3 q q0 q1)
                   | (rw [if_pos ⟨z4, Or.inr (by omega)⟩, fs_cp_i q0 (by omega), u38]; exact tT q q0 q1)) (by omega)
        refine fs_r_call (sta := true) (idx := 421) (as := [.inr (.ref 38), .inr (.ref 39)]) (rest := []) (L1 := [some (.inr (.ref 0)), some (.inl n), some (.inl v), some (.inl (gv_l N (fun q => (bw_g (N 1) (n + 1) c2) q * v))), some (.inl i), some (.inl (gv_l N (fun q => (bw_g (N 1) (n + 1) c2) q * v)))]) (st1 := [.inr (.ref 39), .inr (.ref 38)]) (M1 := U) (ob := [3 < 6, 0 < fs_N ∧ fs_kd 0 = 5, 0 < fs_N ∧ fs_kd 0 = 5]) rfl rfl rfl (fs_oc (by decide) (fs_oc fs_ob0 (fs_oc fs_ob0 trivial))) rfl rfl (Nat.le_of_ble_eq_true rfl) ⟨Or.inr (Nat.le_of_ble_eq_true rfl), trivial⟩ (by decide) ?_
        refine fs_c_copyAll (n := 6) (by first | assumption | exact ⟨by decide, by decide, by decide⟩) (by first | assumption | exact ⟨by decide, by decide, by decide⟩) (by first | decide | omega) (by omega) ?_
        refine fs_r_goto (L1 := [some (.inr (.ref 0)), some (.inl n), some (.inl v), some (.inl (gv_l N (fun q => (bw_g (N 1) (n + 1) c2) q * v))), some (.inl (i + 1)), some (.inl (gv_l N (fun q => (bw_g (N 1) (n + 1) c2) q * v)))]) (st1 := []) (M1 := (fs_cp U 38 39 6)) (ob := [fs_rg (i + 1)]) rfl rfl (fs_oc ⟨by omega, by omega⟩ trivial) ?_
        exact ih42 ((gv_l N (fun q => (bw_g (N 1) (n + 1) c2) q * v))) ((i + 1)) (some (.inl (gv_l N (fun q => (bw_g (N 1) (n + 1) c2) q * v)))) (fs_cp U 38 39 6) (f2) (c2) (by omega) (by first | exact q4 | exact fun r z => by rw [fs_cp_o (by omega)]; exact q4 r z) (by first | exact e4 | (rw [mk_eq (M := U) (fun r a b c => fs_cp_o (by omega))]; exact e4)) (z2) (fun q q0 q1 => by first | (rw [u38]; exact tT q q0 q1) | (rw [fs_cp_o (by decide), u38]; exact tT q q0 q1)) (by first | exact b4 | exact fun q q0 q1 => by rw [fs_cp_o (by decide)]; exact b4 q q0 q1) (by rw [ms]; first | (rw [if_neg (by omega)]; exact ⟨rfl, by omega⟩) | (rw [if_pos ⟨z4, Or.inr (by omega)⟩]; exact ⟨rfl, nx⟩)) (fun q q0 q1 => by
               rw [rs]
               first
                 | (rw [if_neg (by omega), u39]; exact r3 q q0 q1)
                 | (rw [if_pos ⟨z4, Or.inr (by omega)⟩, fs_cp_i q0 (by omega), u38]; exact tT q q0 q1)) (by omega)
      refine fs_r_if (a := 0) (L1 := [some (.inr (.ref 0)), some (.inl n), some (.inl v), some (.inl m), some (.inl i), zl5]) (st1 := []) (M1 := T) (ob := []) rfl rfl trivial (fun _ => ?_) (fun h => absurd (by decide : (0 : Int) = 0) h)
      refine fs_r_iret (a := m) (L1 := [some (.inr (.ref 0)), some (.inl n), some (.inl v), some (.inl m), some (.inl i), zl5]) (M1 := T) (ob := []) rfl rfl trivial (Or.inl rfl) ?_
      first
        | (exfalso; omega)
        | (have mz : m = 0 := by omega
           have w := bw_st2 (N := N) (n := n) (v := v) (a := c + 1) (b := (n + 1) ^ (N 1).toNat) (by have := g3.2.2.1; omega) (by have := g3.2.2.2.1; omega) (by rw [← m3.1]; exact mz) nn
           exact fs_qi (by rw [w.1]; exact mz) (hq0 _ q3 (fun q q0 q1 => by rw [w.2]; exact r3 q q0 q1)))
        | (have gz : ∀ q, 1 ≤ q → q < N 1 → bw_g (N 1) (n + 1) c q = 0 := fun q q0 q1 => by rw [← t3 q (by omega) q1]; exact tz q q0 (by omega)
           have w := bw_to (N := N) (n := n) (v := v) (a := c + 1) (b := (n + 1) ^ (N 1).toNat) (by have := g3.2.2.1; omega) (by have := g3.2.2.2.1; omega) (fun d d0 d1 => gr_end g3 gz d (by omega) d1)
           exact fs_qi (by rw [w.1]; exact m3.1) (hq0 _ (q3.tr (fun r z => tf r (by omega))) (fun q q0 q1 => by rw [w.2, tf 39 (by decide)]; exact r3 q q0 q1)))
  exact loop42 (((((130) : Int)) : Int) + 1).toNat ((gv_l N (fun q => (bw_g (N 1) (n + 1) n) q * v))) (1) (none) V (130) (n) (by omega) (mq.tr (cq.f vf)) (by rw [vf.E]; exact eA) (gs1) (fun q q0 q1 => by rw [vf 38 (by decide) (by decide)]; exact tA q q0 q1) (fun q q0 q1 => by rw [vf 38 (by decide) (by decide)]; exact (tB q q0 q1).2) (⟨by rw [e0.1]; rfl, nn n⟩) (fun q q0 q1 => by rw [vf 39 (by decide) (by decide), (tB q q0 (by omega)).1, e0.2]; exact tA q q0 q1) (by omega)

theorem fs_c_bestAid {d : Nat} {M : fs_M} {Q : Option fs_V → fs_M → Prop} {n : Int} {v : Int} {h : Int} {N : Int → Int} (hV : vw 5 M N) (hN : fs_NI N) (hq0 : ∀ (M2 : fs_M), (cq M M2) → Q (some (.inl (rq_bestAid N n v h))) M2) : fs_W (d + 7) 117 0 [some (.inr (.ref 0)), some (.inl n), some (.inl v), some (.inl h), none] [] M Q := by
  obtain ⟨v0, v1, vcv, vfc, vhd, vln, vlc, vit⟩ := vw5 hV
  obtain ⟨⟨hA0, hA1⟩, ⟨hH0, hH1⟩, hcv, hfc, hhd, hln, hsh, hit, hst⟩ := id hN
  refine fs_r_call (sta := true) (idx := 131) (as := [.inl n, .inl 0, .inl 4]) (rest := []) (L1 := [some (.inr (.ref 0)), some (.inl n), some (.inl v), some (.inl h), none]) (st1 := [.inl 4, .inl 0, .inl n]) (M1 := M) (ob := []) rfl rfl rfl trivial rfl rfl (Nat.le_of_ble_eq_true rfl) ⟨Or.inr (Nat.le_of_ble_eq_true rfl), trivial⟩ (by decide) ?_
  refine fs_c_isWithin (fun (f1 : 0 ≤ n ∧ n ≤ 4) => ?_) (fun (f2 : ¬ (0 ≤ n ∧ n ≤ 4)) => ?_)
  · refine fs_r_if (a := 1) (L1 := [some (.inr (.ref 0)), some (.inl n), some (.inl v), some (.inl h), none]) (st1 := []) (M1 := M) (ob := []) rfl rfl trivial (fun h => absurd h (by decide : ¬ ((1 : Int) = 0))) (fun _ => ?_)
    refine fs_r_call (sta := true) (idx := 131) (as := [.inl v, .inl 1, .inl 999]) (rest := []) (L1 := [some (.inr (.ref 0)), some (.inl n), some (.inl v), some (.inl h), none]) (st1 := [.inl 999, .inl 1, .inl v]) (M1 := M) (ob := []) rfl rfl rfl trivial rfl rfl (Nat.le_of_ble_eq_true rfl) ⟨Or.inr (Nat.le_of_ble_eq_true rfl), trivial⟩ (by decide) ?_
    refine fs_c_isWithin (fun (f3 : 1 ≤ v ∧ v ≤ 999) => ?_) (fun (f4 : ¬ (1 ≤ v ∧ v ≤ 999)) => ?_)
    · refine fs_r_if (a := 1) (L1 := [some (.inr (.ref 0)), some (.inl n), some (.inl v), some (.inl h), none]) (st1 := []) (M1 := M) (ob := []) rfl rfl trivial (fun h => absurd h (by decide : ¬ ((1 : Int) = 0))) (fun _ => ?_)
      refine fs_r_call (sta := false) (idx := 334) (as := [.inr (.ref 0), .inl h]) (rest := []) (L1 := [some (.inr (.ref 0)), some (.inl n), some (.inl v), some (.inl h), none]) (st1 := [.inl h, .inr (.ref 0)]) (M1 := M) (ob := []) rfl rfl rfl trivial rfl rfl (Nat.le_of_ble_eq_true rfl) ⟨Or.inr (Nat.le_of_ble_eq_true rfl), Or.inr fs_ob0⟩ (by decide) ?_
      refine fs_c_isHouseOrNone (fun (f5 : h = -1 ∨ (0 ≤ h ∧ h < M 5 1)) => ?_) (fun (f6 : ¬ (h = -1 ∨ (0 ≤ h ∧ h < M 5 1))) => ?_)
      · refine fs_r_if (a := 1) (L1 := [some (.inr (.ref 0)), some (.inl n), some (.inl v), some (.inl h), none]) (st1 := []) (M1 := M) (ob := []) rfl rfl trivial (fun _ => ?_) (fun h => absurd (by decide : ¬ (1 : Int) = 0) h)
        refine fs_r_if (a := (M 5 1)) (L1 := [some (.inr (.ref 0)), some (.inl n), some (.inl v), some (.inl h), none]) (st1 := []) (M1 := M) (ob := [0 < fs_N ∧ fs_kd 0 = 5, 5 < fs_N ∧ fs_kd 5 = 0]) rfl rfl (fs_oc fs_ob0 (fs_oc fs_ob5 trivial)) (fun (h7 : ¬ (M 5 1) = 0) => ?_) (fun (h7 : ¬ (¬ (M 5 1) = 0)) => ?_)
        · refine fs_r_call (sta := false) (idx := 322) (as := [.inr (.ref 20), .inr (.ref 5)]) (rest := []) (L1 := [some (.inr (.ref 0)), some (.inl n), some (.inl v), some (.inl h), none]) (st1 := [.inr (.ref 5), .inr (.ref 20)]) (M1 := M) (ob := [0 < fs_N ∧ fs_kd 0 = 5, 0 < fs_N ∧ fs_kd 0 = 5]) rfl rfl rfl (fs_oc fs_ob0 (fs_oc fs_ob0 trivial)) rfl rfl (Nat.le_of_ble_eq_true rfl) ⟨Or.inr (Nat.le_of_ble_eq_true rfl), Or.inr fs_ob20⟩ (by decide) ?_
          refine fs_c_load (N := N) (by assumption) (by assumption) (fun (V1 : fs_M) (l1 : ∀ r, (r < 20 ∨ 31 < r) → V1 r = M r) (l2 : ec_eq (mk V1) (ec_pl N)) (l3 : ∀ q, 0 ≤ q → q < 4 → V1 25 q = if q < N 0 then mm_held N q else 0) => ?_)
          refine fs_r_call (sta := false) (idx := 340) (as := [.inr (.ref 0), .inl n, .inl v]) (rest := []) (L1 := [some (.inr (.ref 0)), some (.inl n), some (.inl v), some (.inl h), none]) (st1 := [.inl v, .inl n, .inr (.ref 0)]) (M1 := V1) (ob := []) rfl rfl rfl trivial rfl rfl (Nat.le_of_ble_eq_true rfl) ⟨Or.inr (Nat.le_of_ble_eq_true rfl), Or.inr fs_ob0⟩ (by decide) ?_
          refine fs_c_findBestGifts (N := N) (by have := congrFun (l1 5 (by decide)) 1; omega) (by assumption) (l2) (by omega) (by omega) (by omega) (fun (V2 : fs_M) (q2 : cq V1 V2) (t2 : ∀ q, 0 ≤ q → q < N 1 → V2 39 q = bw_g (N 1) (n + 1) (bw_r N n v ((n + 1) ^ (N 1).toNat).toNat) q) => ?_)
          refine fs_r_icmp (a := h) (y := (-1)) (L1 := [some (.inr (.ref 0)), some (.inl n), some (.inl v), some (.inl h), some (.inl (bw_m N n v ((n + 1) ^ (N 1).toNat).toNat))]) (st1 := []) (M1 := V2) (ob := [4 < 5]) rfl rfl (fs_oc (by decide) trivial) (fun (h8 : ¬ h = (-1)) => ?_) (fun (h8 : ¬ (¬ h = (-1))) => ?_)
          · refine fs_r_nop (L1 := [some (.inr (.ref 0)), some (.inl n), some (.inl v), some (.inl h), some (.inl (bw_m N n v ((n + 1) ^ (N 1).toNat).toNat))]) (st1 := [.inl (V2 39 h)]) (M1 := V2) (ob := [0 < fs_N ∧ fs_kd 0 = 5, (39 < fs_N ∧ fs_kd 39 = 100) ∧ (0 : Int) ≤ h ∧ h < fs_ln 39]) rfl rfl (fs_oc fs_ob0 (fs_oc (fs_ar39 (by omega) (by omega)) trivial)) ?_
            refine fs_r_iret (a := (V2 39 h)) (L1 := [some (.inr (.ref 0)), some (.inl n), some (.inl v), some (.inl h), some (.inl (bw_m N n v ((n + 1) ^ (N 1).toNat).toNat))]) (M1 := V2) (ob := []) rfl rfl trivial (Or.inl rfl) ?_
            first
              | exact fs_qi (by unfold rq_bestAid; rw [if_pos (by omega), if_neg (by omega), if_pos (by omega)]) (hq0 _ ((cq.ld l1).tr q2))
              | exact fs_qi (by unfold rq_bestAid; rw [if_pos (by omega), if_neg (by omega), if_neg (by omega)]; exact t2 h (by omega) (by omega)) (hq0 _ ((cq.ld l1).tr q2))
          refine fs_r_goto (L1 := [some (.inr (.ref 0)), some (.inl n), some (.inl v), some (.inl h), some (.inl (bw_m N n v ((n + 1) ^ (N 1).toNat).toNat))]) (st1 := [.inl (bw_m N n v ((n + 1) ^ (N 1).toNat).toNat)]) (M1 := V2) (ob := []) rfl rfl trivial ?_
          refine fs_r_iret (a := (bw_m N n v ((n + 1) ^ (N 1).toNat).toNat)) (L1 := [some (.inr (.ref 0)), some (.inl n), some (.inl v), some (.inl h), some (.inl (bw_m N n v ((n + 1) ^ (N 1).toNat).toNat))]) (M1 := V2) (ob := []) rfl rfl trivial (Or.inl rfl) ?_
          first
            | exact fs_qi (by unfold rq_bestAid; rw [if_pos (by omega), if_neg (by omega), if_pos (by omega)]) (hq0 _ ((cq.ld l1).tr q2))
            | exact fs_qi (by unfold rq_bestAid; rw [if_pos (by omega), if_neg (by omega), if_neg (by omega)]; exact t2 h (by omega) (by omega)) (hq0 _ ((cq.ld l1).tr q2))
        refine fs_r_iret (a := (-2)) (L1 := [some (.inr (.ref 0)), some (.inl n), some (.inl v), some (.inl h), none]) (M1 := M) (ob := []) rfl rfl trivial (Or.inl rfl) ?_
        exact fs_qi (by unfold rq_bestAid; rw [if_pos (by omega), if_pos (by omega)]) (hq0 _ cq.rf)
      refine fs_r_if (a := 0) (L1 := [some (.inr (.ref 0)), some (.inl n), some (.inl v), some (.inl h), none]) (st1 := []) (M1 := M) (ob := []) rfl rfl trivial (fun h => absurd h (by decide : ¬ (¬ (0 : Int) = 0))) (fun _ => ?_)
      refine fs_r_iret (a := (-1)) (L1 := [some (.inr (.ref 0)), some (.inl n), some (.inl v), some (.inl h), none]) (M1 := M) (ob := []) rfl rfl trivial (Or.inl rfl) ?_
      exact fs_qi (by unfold rq_bestAid; rw [if_neg (fun z => by omega)]) (hq0 _ cq.rf)
    refine fs_r_if (a := 0) (L1 := [some (.inr (.ref 0)), some (.inl n), some (.inl v), some (.inl h), none]) (st1 := []) (M1 := M) (ob := []) rfl rfl trivial (fun _ => ?_) (fun h => absurd (by decide : (0 : Int) = 0) h)
    refine fs_r_iret (a := (-1)) (L1 := [some (.inr (.ref 0)), some (.inl n), some (.inl v), some (.inl h), none]) (M1 := M) (ob := []) rfl rfl trivial (Or.inl rfl) ?_
    exact fs_qi (by unfold rq_bestAid; rw [if_neg (fun z => by omega)]) (hq0 _ cq.rf)
  refine fs_r_if (a := 0) (L1 := [some (.inr (.ref 0)), some (.inl n), some (.inl v), some (.inl h), none]) (st1 := []) (M1 := M) (ob := []) rfl rfl trivial (fun _ => ?_) (fun h => absurd (by decide : (0 : Int) = 0) h)
  refine fs_r_iret (a := (-1)) (L1 := [some (.inr (.ref 0)), some (.inl n), some (.inl v), some (.inl h), none]) (M1 := M) (ob := []) rfl rfl trivial (Or.inl rfl) ?_
  exact fs_qi (by unfold rq_bestAid; rw [if_neg (fun z => by omega)]) (hq0 _ cq.rf)
