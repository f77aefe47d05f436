/-! who falls first -/
def ff_ (v : Int) : Int := if v = -2 then 2001 else v
theorem fl_b {N : Int → Int} {h : Int} : ∀ k : Nat, fl_f N h k = -2 ∨ (1 ≤ fl_f N h k ∧ fl_f N h k ≤ k)
  | 0 => Or.inl rfl
  | k + 1 => by
    have ih := fl_b (N := N) (h := h) k
    unfold fl_f
    split
    · right
      omega
    · omega
theorem fl_s {N : Int → Int} {h : Int} {k : Nat} : fl_f N h (k + 1) = if fl_f N h k = -2 ∧ fs_bt (ec_it (ec_pl N) (ec_calm (ec_pl N)) (k + 1) 4) h = 1 then ((k + 1 : Nat) : Int) else fl_f N h k := rfl
theorem fdE.fr {M M2 : fs_M} {E : Nat → Int → Int} {S : Int → Int} (h : fdE M E S) (f : ∀ r, 20 ≤ r → r < 34 → r ≠ 26 → M2 r = M r) : fdE M2 E S := by
  obtain ⟨h1, h2, h3, h4⟩ := h
  refine ⟨h1, ?_, ?_, ?_⟩
  · rw [mk_eq (fun r a b c => f r a (by omega) c)]
    exact h2
  · rw [← h3]
    unfold sst
    rw [f 32 (by decide) (by decide) (by decide), f (32 + 1) (by decide) (by decide) (by decide)]
  · unfold sb at *
    rw [f 32 (by decide) (by decide) (by decide), f (32 + 1) (by decide) (by decide) (by decide)]
    exact h4
theorem cR.up {M V : fs_M} {N : Int → Int} {j r : Nat} {i v : Int} (h : cR M V N j) (q : 34 ≤ r ∧ r ≤ 39) : cR M (fs_up V r i v) N j := ⟨h.1.up (by omega), h.2.fr (fun r' a b c => fs_up_other (by omega))⟩
theorem fs_c_findFirstFallen {d : Nat} {M : fs_M} {Q : Option fs_V → fs_M → Prop}  {N : Int → Int} (hV : vw 5 M N) (hN : fs_NI N) (hq0 : ∀ (M2 : fs_M), (cq M M2) → (∀ h, 0 ≤ h → h < N 1 → M2 36 h = ff_ (rq_fell N h) ∧ (rq_fell N h = -2 ∨ (1 ≤ rq_fell N h ∧ rq_fell N h ≤ 2000))) → Q none M2) : fs_W (d + 5) 146 0 [some (.inr (.ref 0)), none, none] [] M Q := by
  obtain ⟨v0, v1, vcv, vfc, vhd, vln, vlc, vit⟩ := vw5 hV
  obtain ⟨⟨hA0, hA1⟩, ⟨hH0, hH1⟩, hcv, hfc, hhd, hln, hsh, hit, hst⟩ := id hN
  have hk := ec_okc (pl_bd hN)
  have kb := (ec_k_spec hk).1
  refine fs_r_nop (L1 := [some (.inr (.ref 0)), some (.inl 0), none]) (st1 := []) (M1 := M) (ob := [1 < 3]) rfl rfl (fs_oc (by decide) trivial) ?_
  have loop2 : ∀ (n2 : Nat) (a : Int) (zl2 : Option fs_V) (MA : fs_M), (0 ≤ a ∧ a ≤ 6) → (cq M MA) → (∀ q, 0 ≤ q → q < a → MA 36 q = 2001) → 6 - a < (n2 : Int) → fs_W (d + 5) 146 2 [some (.inr (.ref 0)), some (.inl a), zl2] [] MA Q := by
    intro n2
    induction n2 with
    | zero =>
      intro a zl2 MA a0 qA zA hm2
      exfalso
      omega
    | succ n2 ih2 =>
      intro a zl2 MA a0 qA zA hm2
      refine fs_r_icmp (a := a) (y := 6) (L1 := [some (.inr (.ref 0)), some (.inl a), zl2]) (st1 := []) (M1 := MA) (ob := []) rfl rfl trivial (fun (h1 : 6 ≤ a) => ?_) (fun (h1 : ¬ (6 ≤ a)) => ?_)
      · refine fs_r_call (sta := false) (idx := 276) (as := [.inr (.ref 0), .inl 0]) (rest := []) (L1 := [some (.inr (.ref 0)), some (.inl a), zl2]) (st1 := [.inl 0, .inr (.ref 0)]) (M1 := MA) (ob := []) rfl rfl rfl trivial rfl rfl (Nat.le_of_ble_eq_true rfl) ⟨Or.inr (Nat.le_of_ble_eq_true rfl), Or.inr fs_ob0⟩ (by decide) ?_
        refine fs_c_findRound (N := N) (qA.vw hV) (by assumption) (by omega) (fun (V : fs_M) (q1 : cq MA V) (d1 : fdE V (ec_pl N) (ec_it (ec_pl N) (ec_calm (ec_pl N)) (Int.toNat 0))) (s1 : ∀ r, (r < 20 ∨ 35 < r) → V r = MA r) => ?_)
        have R0 : cR M V N 0 := ⟨qA.tr q1, d1⟩
        have zV : ∀ q, 0 ≤ q → q < 6 → V 36 q = ff_ (fl_f N q 0) := fun q q0 q1 => by { rw [s1 36 (by decide), zA q q0 (by omega)]; rfl }
        refine fs_r_nop (L1 := [some (.inr (.ref 0)), some (.inl 1), zl2]) (st1 := []) (M1 := V) (ob := [1 < 3]) rfl rfl (fs_oc (by decide) trivial) ?_
        have loop30 : ∀ (n30 : Nat) (k : Int) (zl2 : Option fs_V) (M3 : fs_M) (j : Nat), (j ≤ ec_k (ec_pl N) (ec_calm (ec_pl N))) → (cR M M3 N j) → (k = (j : Int) + 1) → (∀ q, 0 ≤ q → q < N 1 → M3 36 q = ff_ (fl_f N q j)) → ((ec_k (ec_pl N) (ec_calm (ec_pl N)) : Nat) : Int) - (j : Int) < (n30 : Int) → fs_W (d + 5) 146 30 [some (.inr (.ref 0)), some (.inl k), zl2] [] M3 Q := by
          intro n30
          induction n30 with
          | zero =>
            intro k zl2 M3 j i0 R0 k0 z0 hm30
            exfalso
            omega
          | succ n30 ih30 =>
            intro k zl2 M3 j i0 R0 k0 z0 hm30
            refine fs_r_icmp (a := k) (y := 2000) (L1 := [some (.inr (.ref 0)), some (.inl k), zl2]) (st1 := []) (M1 := M3) (ob := []) rfl rfl trivial (fun (h2 : 2000 < k) => ?_) (fun (h2 : ¬ (2000 < k)) => ?_)
            · refine fs_r_ret (L1 := [some (.inr (.ref 0)), some (.inl k), zl2]) (M1 := M3) (ob := []) rfl rfl trivial ?_
              have je : j = ec_k (ec_pl N) (ec_calm (ec_pl N)) := by omega
              refine hq0 _ R0.1 (fun q q0 q1 => by
                have w := z0 q q0 (by omega)
                rw [je] at w
                have w2 := fl_b (N := N) (h := q) (ec_k (ec_pl N) (ec_calm (ec_pl N)))
                refine ⟨w, ?_⟩
                unfold rq_fell
                omega)
            refine fs_r_call (sta := false) (idx := 283) (as := [.inr (.ref 20), .inr (.ref 32), .inr (.ref 34)]) (rest := []) (L1 := [some (.inr (.ref 0)), some (.inl k), zl2]) (st1 := [.inr (.ref 34), .inr (.ref 32), .inr (.ref 20)]) (M1 := M3) (ob := [0 < fs_N ∧ fs_kd 0 = 5, 0 < fs_N ∧ fs_kd 0 = 5, 0 < fs_N ∧ fs_kd 0 = 5]) rfl rfl rfl (fs_oc fs_ob0 (fs_oc fs_ob0 (fs_oc fs_ob0 trivial))) rfl rfl (Nat.le_of_ble_eq_true rfl) ⟨Or.inr (Nat.le_of_ble_eq_true rfl), Or.inr fs_ob20⟩ (by decide) ?_
            refine fs_c_advance (R0.2.b) (R0.2.S) (fun (V2 : fs_M) (g1 : mk_f M3 V2) (g2 : sst V2 32 = ec_next (mk M3) (sst M3 32)) (g3 : sb V2 32) (g4 : ¬ sst V2 32 = sst M3 32) => ?_) (fun (V2 : fs_M) (g1 : mk_f M3 V2) (g2 : sst V2 32 = ec_next (mk M3) (sst M3 32)) (g3 : sb V2 32) (g4 : sst V2 32 = sst M3 32) => ?_)
            · refine fs_r_if (a := 1) (L1 := [some (.inr (.ref 0)), some (.inl k), zl2]) (st1 := []) (M1 := V2) (ob := []) rfl rfl trivial (fun _ => ?_) (fun h => absurd (by decide : ¬ (1 : Int) = 0) h)
              have R1 := R0.go g1 g2 g3
              have jl := R0.lt hk R1 i0 g4
              have e36 := g1 36 (by decide) (by decide)
              refine fs_r_nop (L1 := [some (.inr (.ref 0)), some (.inl k), some (.inl 0)]) (st1 := []) (M1 := V2) (ob := [2 < 3]) rfl rfl (fs_oc (by decide) trivial) ?_
              have loop58 : ∀ (n58 : Nat) (c : Int) (M5 : fs_M), (0 ≤ c ∧ c ≤ N 1) → (cR M M5 N (j + 1)) → (∀ q, 0 ≤ q → q < N 1 → M5 36 q = if q < c then ff_ (fl_f N q (j + 1)) else ff_ (fl_f N q j)) → N 1 - c < (n58 : Int) → fs_W (d + 5) 146 58 [some (.inr (.ref 0)), some (.inl k), some (.inl c)] [] M5 Q := by
                intro n58
                induction n58 with
                | zero =>
                  intro c M5 c0 RB zc hm58
                  exfalso
                  omega
                | succ n58 ih58 =>
                  intro c M5 c0 RB zc hm58
                  have nB := congrFun (RB.1 5 (by decide)) 1
                  refine fs_r_icmp (a := c) (y := (M5 5 1)) (L1 := [some (.inr (.ref 0)), some (.inl k), some (.inl c)]) (st1 := []) (M1 := M5) (ob := [0 < fs_N ∧ fs_kd 0 = 5, 5 < fs_N ∧ fs_kd 5 = 0]) rfl rfl (fs_oc fs_ob0 (fs_oc fs_ob5 trivial)) (fun (h3 : (M5 5 1) ≤ c) => ?_) (fun (h3 : ¬ ((M5 5 1) ≤ c)) => ?_)
                  · refine fs_r_goto (L1 := [some (.inr (.ref 0)), some (.inl (k + 1)), some (.inl c)]) (st1 := []) (M1 := M5) (ob := [fs_rg (k + 1)]) rfl rfl (fs_oc ⟨by omega, by omega⟩ trivial) ?_
                    exact ih30 ((k + 1)) (some (.inl c)) M5 ((j + 1)) (by omega) (RB) (by omega) (fun q q0 q1 => by have w := zc q q0 q1; rw [if_pos (by omega)] at w; exact w) (by omega)
                  have zb := zc c (by omega) (by omega)
                  rw [if_neg (by omega)] at zb
                  have sB : M5 32 1 = ec_it (ec_pl N) (ec_calm (ec_pl N)) (j + 1) 4 := RB.2.fa
                  have fs := fl_s (N := N) (h := c) (k := j)
                  rw [← sB] at fs
                  have fb := fl_b (N := N) (h := c) j
                  unfold ff_ at zb
                  refine fs_r_call (sta := false) (idx := 194) (as := [.inr (.ref 32), .inl c]) (rest := []) (L1 := [some (.inr (.ref 0)), some (.inl k), some (.inl c)]) (st1 := [.inl c, .inr (.ref 32)]) (M1 := M5) (ob := [0 < fs_N ∧ fs_kd 0 = 5]) rfl rfl rfl (fs_oc fs_ob0 trivial) rfl rfl (Nat.le_of_ble_eq_true rfl) ⟨Or.inr (Nat.le_of_ble_eq_true rfl), Or.inr fs_ob32⟩ (by decide) ?_
                  refine fs_c_isFallen (fun (bt : fs_bt (M5 32 1) c = 1) => ?_) (fun (bt : ¬ (fs_bt (M5 32 1) c = 1)) => ?_)
                  · have join96 : ∀  (M6 : fs_M), (cR M M6 N (j + 1)) → (M6 36 c = ff_ (fl_f N c (j + 1))) → (∀ q, q ≠ c → M6 36 q = M5 36 q) → fs_W (d + 5) 146 96 [some (.inr (.ref 0)), some (.inl k), some (.inl c)] [] M6 Q := by
                      intro M6 RD zD oD
                      refine fs_r_goto (L1 := [some (.inr (.ref 0)), some (.inl k), some (.inl (c + 1))]) (st1 := []) (M1 := M6) (ob := [fs_rg (c + 1)]) rfl rfl (fs_oc ⟨by omega, by omega⟩ trivial) ?_
                      exact ih58 ((c + 1)) M6 (by omega) (RD) (fun q q0 q1 => by
                             by_cases z : q = c
                             · rw [z, if_pos (by omega), zD]
                             · rw [oD q z, zc q q0 q1]
                               by_cases y : q < c
                               · rw [if_pos y, if_pos (by omega)]
                               · rw [if_neg y, if_neg (by omega)]) (by omega)
                    refine fs_r_if (a := 1) (L1 := [some (.inr (.ref 0)), some (.inl k), some (.inl c)]) (st1 := []) (M1 := M5) (ob := []) rfl rfl trivial (fun h => absurd h (by decide : ¬ ((1 : Int) = 0))) (fun _ => ?_)
                    refine fs_r_nat (v := .inl (min (M5 36 c) k)) (sta := true) (idx := 166) (as := [.inl (M5 36 c), .inl k]) (rest := [.inl c, .inr (.ref 36)]) (L1 := [some (.inr (.ref 0)), some (.inl k), some (.inl c)]) (st1 := [.inl k, .inl (M5 36 c), .inl c, .inr (.ref 36)]) (M1 := M5) (ob := [0 < fs_N ∧ fs_kd 0 = 5, 0 < fs_N ∧ fs_kd 0 = 5, (36 < fs_N ∧ fs_kd 36 = 100) ∧ (0 : Int) ≤ c ∧ c < fs_ln 36]) rfl rfl (fs_exA 6 (o1 := [0 < fs_N ∧ fs_kd 0 = 5, 0 < fs_N ∧ fs_kd 0 = 5]) (L1 := [some (.inr (.ref 0)), some (.inl k), some (.inl c)]) (st1 := [.inl c, .inr (.ref 36), .inl c, .inr (.ref 36)]) (M1 := M5) (o2 := [(36 < fs_N ∧ fs_kd 36 = 100) ∧ (0 : Int) ≤ c ∧ c < fs_ln 36]) rfl rfl) (fs_oc fs_ob0 (fs_oc fs_ob0 (fs_oc (fs_ar36 (by omega) (by omega)) trivial))) rfl rfl (Nat.le_of_ble_eq_true rfl) ⟨Or.inl (by decide), trivial⟩ (by decide) (rfl) ?_
                    refine fs_r_nop (L1 := [some (.inr (.ref 0)), some (.inl k), some (.inl c)]) (st1 := []) (M1 := (fs_up M5 36 c (min (M5 36 c) k))) (ob := [(36 < fs_N ∧ fs_kd 36 = 100) ∧ (0 : Int) ≤ c ∧ c < fs_ln 36]) rfl rfl (fs_oc (fs_ar36 (by omega) (by omega)) trivial) ?_
                    exact join96 (fs_up M5 36 c (min (M5 36 c) k)) (by first | exact RB | exact RB.up (by decide)) (by
                          have fs2 : (fl_f N c j = -2 ∧ fs_bt (M5 32 1) c = 1 → fl_f N c (j + 1) = ((j + 1 : Nat) : Int)) ∧ (¬ (fl_f N c j = -2 ∧ fs_bt (M5 32 1) c = 1) → fl_f N c (j + 1) = fl_f N c j) := ⟨fun w => by rw [fs, if_pos w], fun w => by rw [fs, if_neg w]⟩
                          have zb2 : (fl_f N c j = -2 → M5 36 c = 2001) ∧ (¬ fl_f N c j = -2 → M5 36 c = fl_f N c j) := ⟨fun w => by rw [zb, if_pos w], fun w => by rw [zb, if_neg w]⟩
                          unfold ff_
                          try rw [fs_up_at, if_pos rfl]
                          split <;> omega) (fun q z => by first | rfl | (rw [fs_up_at, if_neg z]))
                  have join96 : ∀  (M6 : fs_M), (cR M M6 N (j + 1)) → (M6 36 c = ff_ (fl_f N c (j + 1))) → (∀ q, q ≠ c → M6 36 q = M5 36 q) → fs_W (d + 5) 146 96 [some (.inr (.ref 0)), some (.inl k), some (.inl c)] [] M6 Q := by
                    intro M6 RD zD oD
                    refine fs_r_goto (L1 := [some (.inr (.ref 0)), some (.inl k), some (.inl (c + 1))]) (st1 := []) (M1 := M6) (ob := [fs_rg (c + 1)]) rfl rfl (fs_oc ⟨by omega, by omega⟩ trivial) ?_
                    exact ih58 ((c + 1)) M6 (by omega) (RD) (fun q q0 q1 => by
                           by_cases z : q = c
                           · rw [z, if_pos (by omega), zD]
                           · rw [oD q z, zc q q0 q1]
                             by_cases y : q < c
                             · rw [if_pos y, if_pos (by omega)]
                             · rw [if_neg y, if_neg (by omega)]) (by omega)
                  refine fs_r_if (a := 0) (L1 := [some (.inr (.ref 0)), some (.inl k), some (.inl c)]) (st1 := []) (M1 := M5) (ob := []) rfl rfl trivial (fun _ => ?_) (fun h => absurd (by decide : (0 : Int) = 0) h)
                  exact join96 M5 (by first | exact RB | exact RB.up (by decide)) (by
                        have fs2 : (fl_f N c j = -2 ∧ fs_bt (M5 32 1) c = 1 → fl_f N c (j + 1) = ((j + 1 : Nat) : Int)) ∧ (¬ (fl_f N c j = -2 ∧ fs_bt (M5 32 1) c = 1) → fl_f N c (j + 1) = fl_f N c j) := ⟨fun w => by rw [fs, if_pos w], fun w => by rw [fs, if_neg w]⟩
                        have zb2 : (fl_f N c j = -2 → M5 36 c = 2001) ∧ (¬ fl_f N c j = -2 → M5 36 c = fl_f N c j) := ⟨fun w => by rw [zb, if_pos w], fun w => by rw [zb, if_neg w]⟩
                        unfold ff_
                        try rw [fs_up_at, if_pos rfl]
                        split <;> omega) (fun q z => by first | rfl | (rw [fs_up_at, if_neg z]))
              exact loop58 (((N 1 - (0)) : Int) + 1).toNat (0) V2 (by omega) (R1) (fun q q0 q1 => by rw [if_neg (by omega), e36]; exact z0 q q0 q1) (by omega)
            refine fs_r_if (a := 0) (L1 := [some (.inr (.ref 0)), some (.inl k), zl2]) (st1 := []) (M1 := V2) (ob := []) rfl rfl trivial (fun h => absurd h (by decide : ¬ (¬ (0 : Int) = 0))) (fun _ => ?_)
            refine fs_r_ret (L1 := [some (.inr (.ref 0)), some (.inl k), zl2]) (M1 := V2) (ob := []) rfl rfl trivial ?_
            have R1 := R0.go g1 g2 g3
            have je := R0.eq hk R1 i0 g4
            have e36 := g1 36 (by decide) (by decide)
            refine hq0 _ R1.1 (fun q q0 q1 => by
              have w := z0 q q0 (by omega)
              rw [← e36] at w
              rw [je] at w
              have w2 := fl_b (N := N) (h := q) (ec_k (ec_pl N) (ec_calm (ec_pl N)))
              refine ⟨w, ?_⟩
              unfold rq_fell
              omega)
        exact loop30 (((((ec_k (ec_pl N) (ec_calm (ec_pl N)) : Nat) : Int) - ((0) : Int)) : Int) + 1).toNat (1) (zl2) V (0) (Nat.zero_le _) (R0) (rfl) (fun q q0 q1 => zV q q0 (by omega)) (by omega)
      refine fs_r_goto (L1 := [some (.inr (.ref 0)), some (.inl (a + 1)), zl2]) (st1 := []) (M1 := (fs_up MA 36 a 2001)) (ob := [0 < fs_N ∧ fs_kd 0 = 5, (36 < fs_N ∧ fs_kd 36 = 100) ∧ (0 : Int) ≤ a ∧ a < fs_ln 36, fs_rg (a + 1)]) rfl rfl (fs_oc fs_ob0 (fs_oc (fs_ar36 (by omega) (by omega)) (fs_oc ⟨by omega, by omega⟩ trivial))) ?_
      exact ih2 ((a + 1)) (zl2) (fs_up MA 36 a 2001) (by omega) (qA.up (by decide)) (fun q q0 q1 => by rw [fs_up_at]; split; rfl; exact zA q q0 (by omega)) (by omega)
  exact loop2 (((6 - (0)) : Int) + 1).toNat (0) (none) M (by omega) (cq.rf) (fun q _ _ => by omega) (by omega)

theorem fs_c_rankOf {d : Nat} {M : fs_M} {Q : Option fs_V → fs_M → Prop} {h : Int} {N : Int → Int} (h1 : M 5 1 = N 1) (hb : 0 ≤ N 1 ∧ N 1 ≤ 6) (hh : 0 ≤ h ∧ h < N 1) (hz : ∀ q, 0 ≤ q → q < N 1 → M 36 q = ff_ (rq_fell N q) ∧ (rq_fell N q = -2 ∨ (1 ≤ rq_fell N q ∧ rq_fell N q ≤ 2000))) (hq0 : Q (some (.inl (rk_a N h (N 1).toNat))) M) : fs_W (d) 147 0 [some (.inr (.ref 0)), some (.inl h), none, none, none, none] [] M Q := by
  refine fs_r_nop (L1 := [some (.inr (.ref 0)), some (.inl h), some (.inl 0), some (.inl 0), none, none]) (st1 := []) (M1 := M) (ob := [2 < 6, 3 < 6]) rfl rfl (fs_oc (by decide) (fs_oc (by decide) trivial)) ?_
  have loop4 : ∀ (n4 : Nat) (a : Int) (o : Int) (zl4 : Option fs_V) (zl5 : Option fs_V), (0 ≤ o ∧ o ≤ N 1) → (a = rk_a N h o.toNat ∧ 0 ≤ a ∧ a ≤ o) → N 1 - o < (n4 : Int) → fs_W (d) 147 4 [some (.inr (.ref 0)), some (.inl h), some (.inl a), some (.inl o), zl4, zl5] [] M Q := by
    intro n4
    induction n4 with
    | zero =>
      intro a o zl4 zl5 o0 a0 hm4
      exfalso
      omega
    | succ n4 ih4 =>
      intro a o zl4 zl5 o0 a0 hm4
      refine fs_r_icmp (a := o) (y := (M 5 1)) (L1 := [some (.inr (.ref 0)), some (.inl h), some (.inl a), some (.inl o), zl4, zl5]) (st1 := []) (M1 := M) (ob := [0 < fs_N ∧ fs_kd 0 = 5, 5 < fs_N ∧ fs_kd 5 = 0]) rfl rfl (fs_oc fs_ob0 (fs_oc fs_ob5 trivial)) (fun (h1 : (M 5 1) ≤ o) => ?_) (fun (h1 : ¬ ((M 5 1) ≤ o)) => ?_)
      · refine fs_r_iret (a := a) (L1 := [some (.inr (.ref 0)), some (.inl h), some (.inl a), some (.inl o), zl4, zl5]) (M1 := M) (ob := []) rfl rfl trivial (Or.inl rfl) ?_
        exact fs_qi (by rw [a0.1, show o = N 1 by omega]) hq0
      have zo := hz o (by omega) (by omega)
      have zh := hz h hh.1 hh.2
      have fo : rk_f N o = if rq_fell N o = -2 then 9999 else rq_fell N o := rfl
      have fh : rk_f N h = if rq_fell N h = -2 then 9999 else rq_fell N h := rfl
      have lt : M 36 o < M 36 h ↔ rk_f N o < rk_f N h := by
        rw [zo.1, zh.1, fo, fh]
        unfold ff_
        split <;> split <;> omega
      have eq : M 36 o = M 36 h ↔ rk_f N o = rk_f N h := by
        rw [zo.1, zh.1, fo, fh]
        unfold ff_
        split <;> split <;> omega
      have join35 : ∀ (x : Int), ((x = 1 ∧ M 36 o < M 36 h) ∨ (x = 0 ∧ ¬ M 36 o < M 36 h)) → fs_W (d) 147 35 [some (.inr (.ref 0)), some (.inl h), some (.inl a), some (.inl o), zl4, zl5] [.inl x] M Q := by
        intro x x0
        have join57 : ∀ (y : Int), ((y = 1 ∧ M 36 o = M 36 h) ∨ (y = 0 ∧ ¬ M 36 o = M 36 h)) → fs_W (d) 147 57 [some (.inr (.ref 0)), some (.inl h), some (.inl a), some (.inl o), some (.inl x), zl5] [.inl y] M Q := by
          intro y y0
          have join77 : ∀ (b : Int), (b = rk_a N h (o + 1).toNat) → (a ≤ b ∧ b ≤ a + 1) → fs_W (d) 147 77 [some (.inr (.ref 0)), some (.inl h), some (.inl b), some (.inl o), some (.inl x), some (.inl y)] [] M Q := by
            intro b b0 b1
            refine fs_r_goto (L1 := [some (.inr (.ref 0)), some (.inl h), some (.inl b), some (.inl (o + 1)), some (.inl x), some (.inl y)]) (st1 := []) (M1 := M) (ob := [fs_rg (o + 1)]) rfl rfl (fs_oc ⟨by omega, by omega⟩ trivial) ?_
            exact ih4 (b) ((o + 1)) (some (.inl x)) (some (.inl y)) (by omega) (⟨b0, by omega, by omega⟩) (by omega)
          refine fs_r_if (a := x) (L1 := [some (.inr (.ref 0)), some (.inl h), some (.inl a), some (.inl o), some (.inl x), some (.inl y)]) (st1 := []) (M1 := M) (ob := [5 < 6]) rfl rfl (fs_oc (by decide) trivial) (fun (h2 : ¬ x = 0) => ?_) (fun (h2 : ¬ (¬ x = 0)) => ?_)
          · refine fs_r_nop (L1 := [some (.inr (.ref 0)), some (.inl h), some (.inl (a + 1)), some (.inl o), some (.inl x), some (.inl y)]) (st1 := []) (M1 := M) (ob := [fs_rg (a + 1)]) rfl rfl (fs_oc ⟨by omega, by omega⟩ trivial) ?_
            exact join77 ((a + 1)) (by
                  have e : rk_a N h (o + 1).toNat = rk_a N h o.toNat + (if rk_f N o < rk_f N h ∨ (rk_f N o = rk_f N h ∧ o < h) then 1 else 0) := fs_sum_s o0.1
                  rw [e, ← a0.1]
                  split <;> omega) (by omega)
          refine fs_r_if (a := y) (L1 := [some (.inr (.ref 0)), some (.inl h), some (.inl a), some (.inl o), some (.inl x), some (.inl y)]) (st1 := []) (M1 := M) (ob := []) rfl rfl trivial (fun (h3 : y = 0) => ?_) (fun (h3 : ¬ (y = 0)) => ?_)
          · exact join77 (a) (by
                  have e : rk_a N h (o + 1).toNat = rk_a N h o.toNat + (if rk_f N o < rk_f N h ∨ (rk_f N o = rk_f N h ∧ o < h) then 1 else 0) := fs_sum_s o0.1
                  rw [e, ← a0.1]
                  split <;> omega) (by omega)
          refine fs_r_icmp (a := o) (y := h) (L1 := [some (.inr (.ref 0)), some (.inl h), some (.inl a), some (.inl o), some (.inl x), some (.inl y)]) (st1 := []) (M1 := M) (ob := []) rfl rfl trivial (fun (h4 : h ≤ o) => ?_) (fun (h4 : ¬ (h ≤ o)) => ?_)
          · exact join77 (a) (by
                  have e : rk_a N h (o + 1).toNat = rk_a N h o.toNat + (if rk_f N o < rk_f N h ∨ (rk_f N o = rk_f N h ∧ o < h) then 1 else 0) := fs_sum_s o0.1
                  rw [e, ← a0.1]
                  split <;> omega) (by omega)
          refine fs_r_nop (L1 := [some (.inr (.ref 0)), some (.inl h), some (.inl (a + 1)), some (.inl o), some (.inl x), some (.inl y)]) (st1 := []) (M1 := M) (ob := [fs_rg (a + 1)]) rfl rfl (fs_oc ⟨by omega, by omega⟩ trivial) ?_
          exact join77 ((a + 1)) (by
                have e : rk_a N h (o + 1).toNat = rk_a N h o.toNat + (if rk_f N o < rk_f N h ∨ (rk_f N o = rk_f N h ∧ o < h) then 1 else 0) := fs_sum_s o0.1
                rw [e, ← a0.1]
                split <;> omega) (by omega)
        refine fs_r_icmp (a := (M 36 o)) (y := (M 36 h)) (L1 := [some (.inr (.ref 0)), some (.inl h), some (.inl a), some (.inl o), some (.inl x), zl5]) (st1 := []) (M1 := M) (ob := [4 < 6, 0 < fs_N ∧ fs_kd 0 = 5, (36 < fs_N ∧ fs_kd 36 = 100) ∧ (0 : Int) ≤ o ∧ o < fs_ln 36, 0 < fs_N ∧ fs_kd 0 = 5, (36 < fs_N ∧ fs_kd 36 = 100) ∧ (0 : Int) ≤ h ∧ h < fs_ln 36]) rfl (fs_exA 6 (o1 := [4 < 6, 0 < fs_N ∧ fs_kd 0 = 5, (36 < fs_N ∧ fs_kd 36 = 100) ∧ (0 : Int) ≤ o ∧ o < fs_ln 36]) (L1 := [some (.inr (.ref 0)), some (.inl h), some (.inl a), some (.inl o), some (.inl x), zl5]) (st1 := [.inr (.ref 0), .inl (M 36 o)]) (M1 := M) (o2 := [0 < fs_N ∧ fs_kd 0 = 5, (36 < fs_N ∧ fs_kd 36 = 100) ∧ (0 : Int) ≤ h ∧ h < fs_ln 36]) rfl rfl) (fs_oc (by decide) (fs_oc fs_ob0 (fs_oc (fs_ar36 (by omega) (by omega)) (fs_oc fs_ob0 (fs_oc (fs_ar36 (by omega) (by omega)) trivial))))) (fun (h5 : ¬ (M 36 o) = (M 36 h)) => ?_) (fun (h5 : ¬ (¬ (M 36 o) = (M 36 h))) => ?_)
        · refine fs_r_nop (L1 := [some (.inr (.ref 0)), some (.inl h), some (.inl a), some (.inl o), some (.inl x), zl5]) (st1 := [.inl 0]) (M1 := M) (ob := []) rfl rfl trivial ?_
          exact join57 (0) (by omega)
        refine fs_r_goto (L1 := [some (.inr (.ref 0)), some (.inl h), some (.inl a), some (.inl o), some (.inl x), zl5]) (st1 := [.inl 1]) (M1 := M) (ob := []) rfl rfl trivial ?_
        exact join57 (1) (by omega)
      refine fs_r_icmp (a := (M 36 o)) (y := (M 36 h)) (L1 := [some (.inr (.ref 0)), some (.inl h), some (.inl a), some (.inl o), zl4, zl5]) (st1 := []) (M1 := M) (ob := [0 < fs_N ∧ fs_kd 0 = 5, (36 < fs_N ∧ fs_kd 36 = 100) ∧ (0 : Int) ≤ o ∧ o < fs_ln 36, 0 < fs_N ∧ fs_kd 0 = 5, (36 < fs_N ∧ fs_kd 36 = 100) ∧ (0 : Int) ≤ h ∧ h < fs_ln 36]) rfl (fs_exA 6 (o1 := [0 < fs_N ∧ fs_kd 0 = 5, (36 < fs_N ∧ fs_kd 36 = 100) ∧ (0 : Int) ≤ o ∧ o < fs_ln 36, 0 < fs_N ∧ fs_kd 0 = 5]) (L1 := [some (.inr (.ref 0)), some (.inl h), some (.inl a), some (.inl o), zl4, zl5]) (st1 := [.inr (.ref 36), .inl (M 36 o)]) (M1 := M) (o2 := [(36 < fs_N ∧ fs_kd 36 = 100) ∧ (0 : Int) ≤ h ∧ h < fs_ln 36]) rfl rfl) (fs_oc fs_ob0 (fs_oc (fs_ar36 (by omega) (by omega)) (fs_oc fs_ob0 (fs_oc (fs_ar36 (by omega) (by omega)) trivial)))) (fun (h6 : (M 36 h) ≤ (M 36 o)) => ?_) (fun (h6 : ¬ ((M 36 h) ≤ (M 36 o))) => ?_)
      · refine fs_r_nop (L1 := [some (.inr (.ref 0)), some (.inl h), some (.inl a), some (.inl o), zl4, zl5]) (st1 := [.inl 0]) (M1 := M) (ob := []) rfl rfl trivial ?_
        exact join35 (0) (by omega)
      refine fs_r_goto (L1 := [some (.inr (.ref 0)), some (.inl h), some (.inl a), some (.inl o), zl4, zl5]) (st1 := [.inl 1]) (M1 := M) (ob := []) rfl rfl trivial ?_
      exact join35 (1) (by omega)
  exact loop4 (((N 1 - (0)) : Int) + 1).toNat (0) (0) (none) (none) (by omega) (⟨rfl, by omega, by omega⟩) (by omega)

theorem fs_c_ranked {d : Nat} {M : fs_M} {Q : Option fs_V → fs_M → Prop} {k : Int} {N : Int → Int} (hV : vw 5 M N) (hN : fs_NI N) (hq0 : ∀ (M2 : fs_M), (cq M M2) → Q (some (.inl (rq_ranked N k))) M2) : fs_W (d + 6) 104 0 [some (.inr (.ref 0)), some (.inl k), none] [] M Q := by
  obtain ⟨v0, v1, vcv, vfc, vhd, vln, vlc, vit⟩ := vw5 hV
  obtain ⟨⟨hA0, hA1⟩, ⟨hH0, hH1⟩, hcv, hfc, hhd, hln, hsh, hit, hst⟩ := id hN
  refine fs_r_call (sta := false) (idx := 117) (as := [.inr (.ref 5), .inl k]) (rest := []) (L1 := [some (.inr (.ref 0)), some (.inl k), none]) (st1 := [.inl k, .inr (.ref 5)]) (M1 := M) (ob := [0 < fs_N ∧ fs_kd 0 = 5]) rfl rfl rfl (fs_oc fs_ob0 trivial) rfl rfl (Nat.le_of_ble_eq_true rfl) ⟨Or.inr (Nat.le_of_ble_eq_true rfl), Or.inr fs_ob5⟩ (by decide) ?_
  refine fs_c_isHouse (fun (f1 : 0 ≤ k ∧ k < M 5 1) => ?_) (fun (f2 : ¬ (0 ≤ k ∧ k < M 5 1)) => ?_)
  · refine fs_r_if (a := 1) (L1 := [some (.inr (.ref 0)), some (.inl k), none]) (st1 := []) (M1 := M) (ob := []) rfl rfl trivial (fun _ => ?_) (fun h => absurd (by decide : ¬ (1 : Int) = 0) h)
    refine fs_r_call (sta := false) (idx := 287) (as := [.inr (.ref 0)]) (rest := []) (L1 := [some (.inr (.ref 0)), some (.inl k), none]) (st1 := [.inr (.ref 0)]) (M1 := M) (ob := []) rfl rfl rfl trivial rfl rfl (Nat.le_of_ble_eq_true rfl) ⟨Or.inr (Nat.le_of_ble_eq_true rfl), Or.inr fs_ob0⟩ (by decide) ?_
    refine fs_c_findFirstFallen (N := N) (by assumption) (by assumption) (fun (V : fs_M) (q1 : cq M V) (z1 : ∀ h, 0 ≤ h → h < N 1 → V 36 h = ff_ (rq_fell N h) ∧ (rq_fell N h = -2 ∨ (1 ≤ rq_fell N h ∧ rq_fell N h ≤ 2000))) => ?_)
    have n1 := congrFun (q1 5 (by decide)) 1
    refine fs_r_nop (L1 := [some (.inr (.ref 0)), some (.inl k), some (.inl 0)]) (st1 := []) (M1 := V) (ob := [2 < 3]) rfl rfl (fs_oc (by decide) trivial) ?_
    have loop19 : ∀ (n19 : Nat) (h : Int), (0 ≤ h ∧ h ≤ N 1) → (rk_r N k h.toNat = -1) → N 1 - h < (n19 : Int) → fs_W (d + 6) 104 19 [some (.inr (.ref 0)), some (.inl k), some (.inl h)] [] V Q := by
      intro n19
      induction n19 with
      | zero =>
        intro h i0 r0 hm19
        exfalso
        omega
      | succ n19 ih19 =>
        intro h i0 r0 hm19
        refine fs_r_icmp (a := h) (y := (V 5 1)) (L1 := [some (.inr (.ref 0)), some (.inl k), some (.inl h)]) (st1 := []) (M1 := V) (ob := [0 < fs_N ∧ fs_kd 0 = 5, 5 < fs_N ∧ fs_kd 5 = 0]) rfl rfl (fs_oc fs_ob0 (fs_oc fs_ob5 trivial)) (fun (h3 : (V 5 1) ≤ h) => ?_) (fun (h3 : ¬ ((V 5 1) ≤ h)) => ?_)
        · refine fs_r_iret (a := (-1)) (L1 := [some (.inr (.ref 0)), some (.inl k), some (.inl h)]) (M1 := V) (ob := []) rfl rfl trivial (Or.inl rfl) ?_
          exact fs_qi (by unfold rq_ranked; rw [if_pos (by omega), show N 1 = h by omega, r0]) (hq0 _ q1)
        refine fs_r_call (sta := false) (idx := 290) (as := [.inr (.ref 0), .inl h]) (rest := []) (L1 := [some (.inr (.ref 0)), some (.inl k), some (.inl h)]) (st1 := [.inl h, .inr (.ref 0)]) (M1 := V) (ob := []) rfl rfl rfl trivial rfl rfl (Nat.le_of_ble_eq_true rfl) ⟨Or.inr (Nat.le_of_ble_eq_true rfl), Or.inr fs_ob0⟩ (by decide) ?_
        refine fs_c_rankOf (N := N) (by omega) (⟨hH0, hH1⟩) (by omega) (z1) ?_
        refine fs_r_icmp (a := (rk_a N h (N 1).toNat)) (y := k) (L1 := [some (.inr (.ref 0)), some (.inl k), some (.inl h)]) (st1 := []) (M1 := V) (ob := []) rfl rfl trivial (fun (h4 : ¬ (rk_a N h (N 1).toNat) = k) => ?_) (fun (h4 : ¬ (¬ (rk_a N h (N 1).toNat) = k)) => ?_)
        · refine fs_r_goto (L1 := [some (.inr (.ref 0)), some (.inl k), some (.inl (h + 1))]) (st1 := []) (M1 := V) (ob := [fs_rg (h + 1)]) rfl rfl (fs_oc ⟨by omega, by omega⟩ trivial) ?_
          exact ih19 ((h + 1)) (by omega) (by rw [rk_r_s (by omega), if_neg (fun z => by omega)]; exact r0) (by omega)
        refine fs_r_iret (a := h) (L1 := [some (.inr (.ref 0)), some (.inl k), some (.inl h)]) (M1 := V) (ob := []) rfl rfl trivial (Or.inl rfl) ?_
        exact fs_qi (by unfold rq_ranked; rw [if_pos (by omega), rk_r_f (by omega) (by omega) r0 (by omega)]) (hq0 _ q1)
    exact loop19 (((N 1 - (0)) : Int) + 1).toNat (0) (by omega) (rfl) (by omega)
  refine fs_r_if (a := 0) (L1 := [some (.inr (.ref 0)), some (.inl k), none]) (st1 := []) (M1 := M) (ob := []) rfl rfl trivial (fun h => absurd h (by decide : ¬ (¬ (0 : Int) = 0))) (fun _ => ?_)
  refine fs_r_iret (a := (-1)) (L1 := [some (.inr (.ref 0)), some (.inl k), none]) (M1 := M) (ob := []) rfl rfl trivial (Or.inl rfl) ?_
  exact fs_qi (by unfold rq_ranked; rw [if_neg (by omega)]) (hq0 _ cq.rf)

theorem fs_c_fellIn {d : Nat} {M : fs_M} {Q : Option fs_V → fs_M → Prop} {h : Int} {N : Int → Int} (hV : vw 5 M N) (hN : fs_NI N) (hq0 : ∀ (M2 : fs_M), (cq M M2) → Q (some (.inl (rq_fellIn N h))) M2) : fs_W (d + 6) 105 0 [some (.inr (.ref 0)), some (.inl h)] [] M Q := by
  obtain ⟨v0, v1, vcv, vfc, vhd, vln, vlc, vit⟩ := vw5 hV
  obtain ⟨⟨hA0, hA1⟩, ⟨hH0, hH1⟩, hcv, hfc, hhd, hln, hsh, hit, hst⟩ := id hN
  refine fs_r_call (sta := false) (idx := 117) (as := [.inr (.ref 5), .inl h]) (rest := []) (L1 := [some (.inr (.ref 0)), some (.inl h)]) (st1 := [.inl h, .inr (.ref 5)]) (M1 := M) (ob := [0 < fs_N ∧ fs_kd 0 = 5]) rfl rfl rfl (fs_oc fs_ob0 trivial) rfl rfl (Nat.le_of_ble_eq_true rfl) ⟨Or.inr (Nat.le_of_ble_eq_true rfl), Or.inr fs_ob5⟩ (by decide) ?_
  refine fs_c_isHouse (fun (f1 : 0 ≤ h ∧ h < M 5 1) => ?_) (fun (f2 : ¬ (0 ≤ h ∧ h < M 5 1)) => ?_)
  · refine fs_r_if (a := 1) (L1 := [some (.inr (.ref 0)), some (.inl h)]) (st1 := []) (M1 := M) (ob := []) rfl rfl trivial (fun _ => ?_) (fun h => absurd (by decide : ¬ (1 : Int) = 0) h)
    refine fs_r_call (sta := false) (idx := 287) (as := [.inr (.ref 0)]) (rest := []) (L1 := [some (.inr (.ref 0)), some (.inl h)]) (st1 := [.inr (.ref 0)]) (M1 := M) (ob := []) rfl rfl rfl trivial rfl rfl (Nat.le_of_ble_eq_true rfl) ⟨Or.inr (Nat.le_of_ble_eq_true rfl), Or.inr fs_ob0⟩ (by decide) ?_
    refine fs_c_findFirstFallen (N := N) (by assumption) (by assumption) (fun (V : fs_M) (q1 : cq M V) (z1 : ∀ h, 0 ≤ h → h < N 1 → V 36 h = ff_ (rq_fell N h) ∧ (rq_fell N h = -2 ∨ (1 ≤ rq_fell N h ∧ rq_fell N h ≤ 2000))) => ?_)
    have zz := z1 h (by omega) (by omega)
    unfold ff_ at zz
    refine fs_r_icmp (a := (V 36 h)) (y := 2000) (L1 := [some (.inr (.ref 0)), some (.inl h)]) (st1 := []) (M1 := V) (ob := [0 < fs_N ∧ fs_kd 0 = 5, (36 < fs_N ∧ fs_kd 36 = 100) ∧ (0 : Int) ≤ h ∧ h < fs_ln 36]) rfl rfl (fs_oc fs_ob0 (fs_oc (fs_ar36 (by omega) (by omega)) trivial)) (fun (h3 : (V 36 h) ≤ 2000) => ?_) (fun (h3 : ¬ ((V 36 h) ≤ 2000)) => ?_)
    · refine fs_r_nop (L1 := [some (.inr (.ref 0)), some (.inl h)]) (st1 := [.inl (V 36 h)]) (M1 := V) (ob := [0 < fs_N ∧ fs_kd 0 = 5, (36 < fs_N ∧ fs_kd 36 = 100) ∧ (0 : Int) ≤ h ∧ h < fs_ln 36]) rfl rfl (fs_oc fs_ob0 (fs_oc (fs_ar36 (by omega) (by omega)) trivial)) ?_
      refine fs_r_iret (a := (V 36 h)) (L1 := [some (.inr (.ref 0)), some (.inl h)]) (M1 := V) (ob := []) rfl rfl trivial (Or.inl rfl) ?_
      exact fs_qi (by unfold rq_fellIn; rw [if_pos (by omega)]; split at zz <;> omega) (hq0 _ q1)
    refine fs_r_goto (L1 := [some (.inr (.ref 0)), some (.inl h)]) (st1 := [.inl (-2)]) (M1 := V) (ob := []) rfl rfl trivial ?_
    refine fs_r_iret (a := (-2)) (L1 := [some (.inr (.ref 0)), some (.inl h)]) (M1 := V) (ob := []) rfl rfl trivial (Or.inl rfl) ?_
    exact fs_qi (by unfold rq_fellIn; rw [if_pos (by omega)]; split at zz <;> omega) (hq0 _ q1)
  refine fs_r_if (a := 0) (L1 := [some (.inr (.ref 0)), some (.inl h)]) (st1 := []) (M1 := M) (ob := []) rfl rfl trivial (fun h => absurd h (by decide : ¬ (¬ (0 : Int) = 0))) (fun _ => ?_)
  refine fs_r_iret (a := (-1)) (L1 := [some (.inr (.ref 0)), some (.inl h)]) (M1 := M) (ob := []) rfl rfl trivial (Or.inl rfl) ?_
  exact fs_qi (by unfold rq_fellIn; rw [if_neg (by omega)]) (hq0 _ cq.rf)
