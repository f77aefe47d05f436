theorem fs_c_state {d : Nat} {M : fs_M} {Q : Option fs_V → fs_M → Prop} {w : Int} {x : Int} {N : Int → Int} (hV : vw 5 M N) (hN : fs_NI N) (hq0 : ∀ (M2 : fs_M), (cq M M2) → Q (some (.inl (rq_state N w x))) M2) : fs_W (d + 6) 96 0 [some (.inr (.ref 0)), some (.inl w), some (.inl x)] [] M Q := by
  obtain ⟨v0, v1, vcv, vfc, vhd, vln, vlc, vit⟩ := vw5 hV
  obtain ⟨⟨hA0, hA1⟩, ⟨hH0, hH1⟩, hcv, hfc, hhd, hln, hsh, hit, hst⟩ := id hN
  refine fs_r_call (sta := true) (idx := 243) (as := [.inl w]) (rest := []) (L1 := [some (.inr (.ref 0)), some (.inl w), some (.inl x)]) (st1 := [.inl w]) (M1 := M) (ob := []) rfl rfl rfl trivial rfl rfl (Nat.le_of_ble_eq_true rfl) ⟨Or.inr (Nat.le_of_ble_eq_true rfl), trivial⟩ (by decide) ?_
  refine fs_c_isState (fun (f1 : 0 ≤ w ∧ w ≤ 3) => ?_) (fun (f2 : ¬ (0 ≤ w ∧ w ≤ 3)) => ?_)
  · refine fs_r_if (a := 1) (L1 := [some (.inr (.ref 0)), some (.inl w), some (.inl x)]) (st1 := []) (M1 := M) (ob := []) rfl rfl trivial (fun h => absurd h (by decide : ¬ ((1 : Int) = 0))) (fun _ => ?_)
    refine fs_r_call (sta := false) (idx := 246) (as := [.inr (.ref 0), .inl x]) (rest := []) (L1 := [some (.inr (.ref 0)), some (.inl w), some (.inl x)]) (st1 := [.inl x, .inr (.ref 0)]) (M1 := M) (ob := []) rfl rfl rfl trivial rfl rfl (Nat.le_of_ble_eq_true rfl) ⟨Or.inr (Nat.le_of_ble_eq_true rfl), Or.inr fs_ob0⟩ (by decide) ?_
    refine fs_c_isTold (fun (f3 : (0 ≤ x ∧ x < M 5 0) ∨ (4 ≤ x ∧ x ≤ 7)) => ?_) (fun (f4 : ¬ ((0 ≤ x ∧ x < M 5 0) ∨ (4 ≤ x ∧ x ≤ 7))) => ?_)
    · refine fs_r_if (a := 1) (L1 := [some (.inr (.ref 0)), some (.inl w), some (.inl x)]) (st1 := []) (M1 := M) (ob := []) rfl rfl trivial (fun _ => ?_) (fun h => absurd (by decide : ¬ (1 : Int) = 0) h)
      refine fs_r_call (sta := false) (idx := 181) (as := [.inr (.ref 0), .inl w]) (rest := []) (L1 := [some (.inr (.ref 0)), some (.inl w), some (.inl x)]) (st1 := [.inl w, .inr (.ref 0)]) (M1 := M) (ob := []) rfl rfl rfl trivial rfl rfl (Nat.le_of_ble_eq_true rfl) ⟨Or.inr (Nat.le_of_ble_eq_true rfl), Or.inr fs_ob0⟩ (by decide) ?_
      refine fs_c_find (N := N) (by assumption) (by assumption) (by omega) (fun (xx : Int) (V : fs_M) (q1 : cq M V) (d1 : fdE V (ec_pl N) (ec_std (ec_pl N) w)) (k1 : (w = 1 → xx = (ec_k (ec_pl N) (ec_calm (ec_pl N)) : Nat)) ∧ (w = 2 → xx = (ec_k (ec_pl N) (ec_panic (ec_pl N)) : Nat))) => ?_)
      refine fs_r_call (sta := false) (idx := 249) (as := [.inr (.ref 20), .inr (.ref 32), .inl x]) (rest := []) (L1 := [some (.inr (.ref 0)), some (.inl w), some (.inl x)]) (st1 := [.inl x, .inr (.ref 32), .inr (.ref 20)]) (M1 := V) (ob := [0 < fs_N ∧ fs_kd 0 = 5, 0 < fs_N ∧ fs_kd 0 = 5]) rfl rfl rfl (fs_oc fs_ob0 (fs_oc fs_ob0 trivial)) rfl rfl (Nat.le_of_ble_eq_true rfl) ⟨Or.inr (Nat.le_of_ble_eq_true rfl), Or.inr fs_ob20⟩ (by decide) ?_
      refine fs_c_tell (d1.b) (d1.S) (by have e := d1.n0; have e2 : ec_pl N 0 0 = N 0 := rfl; omega) ?_
      refine fs_r_iret (a := (ec_tell (mk V) (sst V 32) x)) (L1 := [some (.inr (.ref 0)), some (.inl w), some (.inl x)]) (M1 := V) (ob := []) rfl rfl trivial (Or.inl rfl) ?_
      exact fs_qi (by unfold rq_state; rw [if_pos (by omega), d1.tell]) (hq0 _ q1)
    refine fs_r_if (a := 0) (L1 := [some (.inr (.ref 0)), some (.inl w), some (.inl x)]) (st1 := []) (M1 := M) (ob := []) rfl rfl trivial (fun h => absurd h (by decide : ¬ (¬ (0 : Int) = 0))) (fun _ => ?_)
    refine fs_r_iret (a := (-1)) (L1 := [some (.inr (.ref 0)), some (.inl w), some (.inl x)]) (M1 := M) (ob := []) rfl rfl trivial (Or.inl rfl) ?_
    exact fs_qi (by unfold rq_state; rw [if_neg (by omega)]) (hq0 _ cq.rf)
  refine fs_r_if (a := 0) (L1 := [some (.inr (.ref 0)), some (.inl w), some (.inl x)]) (st1 := []) (M1 := M) (ob := []) rfl rfl trivial (fun _ => ?_) (fun h => absurd (by decide : (0 : Int) = 0) h)
  refine fs_r_iret (a := (-1)) (L1 := [some (.inr (.ref 0)), some (.inl w), some (.inl x)]) (M1 := M) (ob := []) rfl rfl trivial (Or.inl rfl) ?_
  exact fs_qi (by unfold rq_state; rw [if_neg (by omega)]) (hq0 _ cq.rf)

theorem fs_c_rounds {d : Nat} {M : fs_M} {Q : Option fs_V → fs_M → Prop} {g : Int} {N : Int → Int} (hV : vw 5 M N) (hN : fs_NI N) (hq0 : ∀ (M2 : fs_M), (cq M M2) → Q (some (.inl (rq_rounds N g))) M2) : fs_W (d + 6) 97 0 [some (.inr (.ref 0)), some (.inl g)] [] M Q := by
  obtain ⟨v0, v1, vcv, vfc, vhd, vln, vlc, vit⟩ := vw5 hV
  obtain ⟨⟨hA0, hA1⟩, ⟨hH0, hH1⟩, hcv, hfc, hhd, hln, hsh, hit, hst⟩ := id hN
  refine fs_r_if (a := g) (L1 := [some (.inr (.ref 0)), some (.inl g)]) (st1 := [.inr (.ref 0)]) (M1 := M) (ob := []) rfl rfl trivial (fun (h1 : g = 0) => ?_) (fun (h1 : ¬ (g = 0)) => ?_)
  · refine fs_r_nop (L1 := [some (.inr (.ref 0)), some (.inl g)]) (st1 := [.inl 1, .inr (.ref 0)]) (M1 := M) (ob := []) rfl rfl trivial ?_
    refine fs_r_call (sta := false) (idx := 181) (as := [.inr (.ref 0), .inl 1]) (rest := []) (L1 := [some (.inr (.ref 0)), some (.inl g)]) (st1 := [.inl 1, .inr (.ref 0)]) (M1 := M) (ob := []) rfl rfl rfl trivial rfl rfl (Nat.le_of_ble_eq_true rfl) ⟨Or.inr (Nat.le_of_ble_eq_true rfl), Or.inr fs_ob0⟩ (by decide) ?_
    refine fs_c_find (N := N) (by assumption) (by assumption) (by omega) (fun (x : Int) (V : fs_M) (q1 : cq M V) (d1 : fdE V (ec_pl N) (ec_std (ec_pl N) 1)) (k1 : (1 = 1 → x = (ec_k (ec_pl N) (ec_calm (ec_pl N)) : Nat)) ∧ (1 = 2 → x = (ec_k (ec_pl N) (ec_panic (ec_pl N)) : Nat))) => ?_)
    refine fs_r_iret (a := x) (L1 := [some (.inr (.ref 0)), some (.inl g)]) (M1 := V) (ob := []) rfl rfl trivial (Or.inl rfl) ?_
    first
      | exact fs_qi (by unfold rq_rounds; rw [if_pos (by assumption)]; exact k1.1 rfl) (hq0 _ q1)
      | exact fs_qi (by unfold rq_rounds; rw [if_neg (by assumption)]; exact k1.2 rfl) (hq0 _ q1)
  refine fs_r_goto (L1 := [some (.inr (.ref 0)), some (.inl g)]) (st1 := [.inl 2, .inr (.ref 0)]) (M1 := M) (ob := []) rfl rfl trivial ?_
  refine fs_r_call (sta := false) (idx := 181) (as := [.inr (.ref 0), .inl 2]) (rest := []) (L1 := [some (.inr (.ref 0)), some (.inl g)]) (st1 := [.inl 2, .inr (.ref 0)]) (M1 := M) (ob := []) rfl rfl rfl trivial rfl rfl (Nat.le_of_ble_eq_true rfl) ⟨Or.inr (Nat.le_of_ble_eq_true rfl), Or.inr fs_ob0⟩ (by decide) ?_
  refine fs_c_find (N := N) (by assumption) (by assumption) (by omega) (fun (x : Int) (V : fs_M) (q1 : cq M V) (d1 : fdE V (ec_pl N) (ec_std (ec_pl N) 2)) (k1 : (2 = 1 → x = (ec_k (ec_pl N) (ec_calm (ec_pl N)) : Nat)) ∧ (2 = 2 → x = (ec_k (ec_pl N) (ec_panic (ec_pl N)) : Nat))) => ?_)
  refine fs_r_iret (a := x) (L1 := [some (.inr (.ref 0)), some (.inl g)]) (M1 := V) (ob := []) rfl rfl trivial (Or.inl rfl) ?_
  first
    | exact fs_qi (by unfold rq_rounds; rw [if_pos (by assumption)]; exact k1.1 rfl) (hq0 _ q1)
    | exact fs_qi (by unfold rq_rounds; rw [if_neg (by assumption)]; exact k1.2 rfl) (hq0 _ q1)

theorem fs_c_price {d : Nat} {M : fs_M} {Q : Option fs_V → fs_M → Prop} {w : Int} {a : Int} {N : Int → Int} (hV : vw 5 M N) (hN : fs_NI N) (hq0 : ∀ (M2 : fs_M), (cq M M2) → Q (some (.inl (rq_price N w a))) M2) : fs_W (d + 6) 98 0 [some (.inr (.ref 0)), some (.inl w), some (.inl a)] [] M Q := by
  obtain ⟨v0, v1, vcv, vfc, vhd, vln, vlc, vit⟩ := vw5 hV
  obtain ⟨⟨hA0, hA1⟩, ⟨hH0, hH1⟩, hcv, hfc, hhd, hln, hsh, hit, hst⟩ := id hN
  refine fs_r_call (sta := true) (idx := 243) (as := [.inl w]) (rest := []) (L1 := [some (.inr (.ref 0)), some (.inl w), some (.inl a)]) (st1 := [.inl w]) (M1 := M) (ob := []) rfl rfl rfl trivial rfl rfl (Nat.le_of_ble_eq_true rfl) ⟨Or.inr (Nat.le_of_ble_eq_true rfl), trivial⟩ (by decide) ?_
  refine fs_c_isState (fun (f1 : 0 ≤ w ∧ w ≤ 3) => ?_) (fun (f2 : ¬ (0 ≤ w ∧ w ≤ 3)) => ?_)
  · refine fs_r_if (a := 1) (L1 := [some (.inr (.ref 0)), some (.inl w), some (.inl a)]) (st1 := []) (M1 := M) (ob := []) rfl rfl trivial (fun h => absurd h (by decide : ¬ ((1 : Int) = 0))) (fun _ => ?_)
    refine fs_r_call (sta := false) (idx := 128) (as := [.inr (.ref 5), .inl a]) (rest := []) (L1 := [some (.inr (.ref 0)), some (.inl w), some (.inl a)]) (st1 := [.inl a, .inr (.ref 5)]) (M1 := M) (ob := [0 < fs_N ∧ fs_kd 0 = 5]) rfl rfl rfl (fs_oc fs_ob0 trivial) rfl rfl (Nat.le_of_ble_eq_true rfl) ⟨Or.inr (Nat.le_of_ble_eq_true rfl), Or.inr fs_ob5⟩ (by decide) ?_
    refine fs_c_isAsset (fun (f3 : 0 ≤ a ∧ a < M 5 0) => ?_) (fun (f4 : ¬ (0 ≤ a ∧ a < M 5 0)) => ?_)
    · refine fs_r_if (a := 1) (L1 := [some (.inr (.ref 0)), some (.inl w), some (.inl a)]) (st1 := []) (M1 := M) (ob := []) rfl rfl trivial (fun _ => ?_) (fun h => absurd (by decide : ¬ (1 : Int) = 0) h)
      refine fs_r_call (sta := false) (idx := 181) (as := [.inr (.ref 0), .inl w]) (rest := []) (L1 := [some (.inr (.ref 0)), some (.inl w), some (.inl a)]) (st1 := [.inl w, .inr (.ref 0)]) (M1 := M) (ob := []) rfl rfl rfl trivial rfl rfl (Nat.le_of_ble_eq_true rfl) ⟨Or.inr (Nat.le_of_ble_eq_true rfl), Or.inr fs_ob0⟩ (by decide) ?_
      refine fs_c_find (N := N) (by assumption) (by assumption) (by omega) (fun (x : Int) (V : fs_M) (q1 : cq M V) (d1 : fdE V (ec_pl N) (ec_std (ec_pl N) w)) (k1 : (w = 1 → x = (ec_k (ec_pl N) (ec_calm (ec_pl N)) : Nat)) ∧ (w = 2 → x = (ec_k (ec_pl N) (ec_panic (ec_pl N)) : Nat))) => ?_)
      have e0 := d1.n0
      have e00 : ec_pl N 0 0 = N 0 := rfl
      have e1 := d1.n1
      have e11 : ec_pl N 0 1 = N 1 := rfl
      obtain ⟨-, sd⟩ := sb32 d1.S
      have sa := sd a (by omega) (by omega)
      refine fs_r_call (sta := false) (idx := 253) (as := [.inr (.ref 20), .inl a, .inl (V 33 a)]) (rest := []) (L1 := [some (.inr (.ref 0)), some (.inl w), some (.inl a)]) (st1 := [.inl (V 33 a), .inl a, .inr (.ref 20)]) (M1 := V) (ob := [0 < fs_N ∧ fs_kd 0 = 5, 0 < fs_N ∧ fs_kd 0 = 5, 32 < fs_N ∧ fs_kd 32 = 3, (33 < fs_N ∧ fs_kd 33 = 100) ∧ (0 : Int) ≤ a ∧ a < fs_ln 33]) rfl rfl (fs_exA 6 (o1 := [0 < fs_N ∧ fs_kd 0 = 5, 0 < fs_N ∧ fs_kd 0 = 5]) (L1 := [some (.inr (.ref 0)), some (.inl w), some (.inl a)]) (st1 := [.inr (.ref 32), .inl a, .inr (.ref 20)]) (M1 := V) (o2 := [32 < fs_N ∧ fs_kd 32 = 3, (33 < fs_N ∧ fs_kd 33 = 100) ∧ (0 : Int) ≤ a ∧ a < fs_ln 33]) rfl rfl) (fs_oc fs_ob0 (fs_oc fs_ob0 (fs_oc fs_ob32 (fs_oc (fs_ar33 (by omega) (by omega)) trivial)))) rfl rfl (Nat.le_of_ble_eq_true rfl) ⟨Or.inr (Nat.le_of_ble_eq_true rfl), Or.inr fs_ob20⟩ (by decide) ?_
      refine fs_c_priceAt (d1.b) (by omega) (by omega) ?_
      refine fs_r_iret (a := (ec_price (mk V) a (V 33 a))) (L1 := [some (.inr (.ref 0)), some (.inl w), some (.inl a)]) (M1 := V) (ob := []) rfl rfl trivial (Or.inl rfl) ?_
      exact fs_qi (by unfold rq_price; rw [if_pos (by omega), ← d1.2.2.1, sst_at ⟨by omega, by omega⟩]; exact d1.2.1.price (by omega) (by show a < V 20 0; omega)) (hq0 _ q1)
    refine fs_r_if (a := 0) (L1 := [some (.inr (.ref 0)), some (.inl w), some (.inl a)]) (st1 := []) (M1 := M) (ob := []) rfl rfl trivial (fun h => absurd h (by decide : ¬ (¬ (0 : Int) = 0))) (fun _ => ?_)
    refine fs_r_iret (a := (-1)) (L1 := [some (.inr (.ref 0)), some (.inl w), some (.inl a)]) (M1 := M) (ob := []) rfl rfl trivial (Or.inl rfl) ?_
    exact fs_qi (by unfold rq_price; rw [if_neg (by omega)]) (hq0 _ cq.rf)
  refine fs_r_if (a := 0) (L1 := [some (.inr (.ref 0)), some (.inl w), some (.inl a)]) (st1 := []) (M1 := M) (ob := []) rfl rfl trivial (fun _ => ?_) (fun h => absurd (by decide : (0 : Int) = 0) h)
  refine fs_r_iret (a := (-1)) (L1 := [some (.inr (.ref 0)), some (.inl w), some (.inl a)]) (M1 := M) (ob := []) rfl rfl trivial (Or.inl rfl) ?_
  exact fs_qi (by unfold rq_price; rw [if_neg (by omega)]) (hq0 _ cq.rf)

theorem fs_c_worth {d : Nat} {M : fs_M} {Q : Option fs_V → fs_M → Prop} {w : Int} {h : Int} {N : Int → Int} (hV : vw 5 M N) (hN : fs_NI N) (hq0 : ∀ (M2 : fs_M), (cq M M2) → Q (some (.inl (rq_worth N w h))) M2) : fs_W (d + 6) 99 0 [some (.inr (.ref 0)), some (.inl w), some (.inl h)] [] M Q := by
  obtain ⟨v0, v1, vcv, vfc, vhd, vln, vlc, vit⟩ := vw5 hV
  obtain ⟨⟨hA0, hA1⟩, ⟨hH0, hH1⟩, hcv, hfc, hhd, hln, hsh, hit, hst⟩ := id hN
  refine fs_r_call (sta := true) (idx := 243) (as := [.inl w]) (rest := []) (L1 := [some (.inr (.ref 0)), some (.inl w), some (.inl h)]) (st1 := [.inl w]) (M1 := M) (ob := []) rfl rfl rfl trivial rfl rfl (Nat.le_of_ble_eq_true rfl) ⟨Or.inr (Nat.le_of_ble_eq_true rfl), trivial⟩ (by decide) ?_
  refine fs_c_isState (fun (f1 : 0 ≤ w ∧ w ≤ 3) => ?_) (fun (f2 : ¬ (0 ≤ w ∧ w ≤ 3)) => ?_)
  · refine fs_r_if (a := 1) (L1 := [some (.inr (.ref 0)), some (.inl w), some (.inl h)]) (st1 := []) (M1 := M) (ob := []) rfl rfl trivial (fun h => absurd h (by decide : ¬ ((1 : Int) = 0))) (fun _ => ?_)
    refine fs_r_call (sta := false) (idx := 117) (as := [.inr (.ref 5), .inl h]) (rest := []) (L1 := [some (.inr (.ref 0)), some (.inl w), some (.inl h)]) (st1 := [.inl h, .inr (.ref 5)]) (M1 := M) (ob := [0 < fs_N ∧ fs_kd 0 = 5]) rfl rfl rfl (fs_oc fs_ob0 trivial) rfl rfl (Nat.le_of_ble_eq_true rfl) ⟨Or.inr (Nat.le_of_ble_eq_true rfl), Or.inr fs_ob5⟩ (by decide) ?_
    refine fs_c_isHouse (fun (f3 : 0 ≤ h ∧ h < M 5 1) => ?_) (fun (f4 : ¬ (0 ≤ h ∧ h < M 5 1)) => ?_)
    · refine fs_r_if (a := 1) (L1 := [some (.inr (.ref 0)), some (.inl w), some (.inl h)]) (st1 := []) (M1 := M) (ob := []) rfl rfl trivial (fun _ => ?_) (fun h => absurd (by decide : ¬ (1 : Int) = 0) h)
      refine fs_r_call (sta := false) (idx := 181) (as := [.inr (.ref 0), .inl w]) (rest := []) (L1 := [some (.inr (.ref 0)), some (.inl w), some (.inl h)]) (st1 := [.inl w, .inr (.ref 0)]) (M1 := M) (ob := []) rfl rfl rfl trivial rfl rfl (Nat.le_of_ble_eq_true rfl) ⟨Or.inr (Nat.le_of_ble_eq_true rfl), Or.inr fs_ob0⟩ (by decide) ?_
      refine fs_c_find (N := N) (by assumption) (by assumption) (by omega) (fun (x : Int) (V : fs_M) (q1 : cq M V) (d1 : fdE V (ec_pl N) (ec_std (ec_pl N) w)) (k1 : (w = 1 → x = (ec_k (ec_pl N) (ec_calm (ec_pl N)) : Nat)) ∧ (w = 2 → x = (ec_k (ec_pl N) (ec_panic (ec_pl N)) : Nat))) => ?_)
      have e0 := d1.n0
      have e00 : ec_pl N 0 0 = N 0 := rfl
      have e1 := d1.n1
      have e11 : ec_pl N 0 1 = N 1 := rfl
      refine fs_r_call (sta := false) (idx := 257) (as := [.inr (.ref 20), .inr (.ref 32)]) (rest := []) (L1 := [some (.inr (.ref 0)), some (.inl w), some (.inl h)]) (st1 := [.inr (.ref 32), .inr (.ref 20)]) (M1 := V) (ob := [0 < fs_N ∧ fs_kd 0 = 5, 0 < fs_N ∧ fs_kd 0 = 5]) rfl rfl rfl (fs_oc fs_ob0 (fs_oc fs_ob0 trivial)) rfl rfl (Nat.le_of_ble_eq_true rfl) ⟨Or.inr (Nat.le_of_ble_eq_true rfl), Or.inr fs_ob20⟩ (by decide) ?_
      refine fs_c_priceBy (d1.b) (d1.S) (fun (P : fs_M) (pf : ∀ r, r ≠ 26 → P r = V r) (pp : ∀ q, 0 ≤ q → q < V 20 0 → P 26 q = ec_price (mk V) q (V 33 q)) => ?_)
      refine fs_r_call (sta := false) (idx := 261) (as := [.inr (.ref 20), .inl h, .inr (.ref 32)]) (rest := []) (L1 := [some (.inr (.ref 0)), some (.inl w), some (.inl h)]) (st1 := [.inr (.ref 32), .inl h, .inr (.ref 20)]) (M1 := P) (ob := [0 < fs_N ∧ fs_kd 0 = 5, 0 < fs_N ∧ fs_kd 0 = 5]) rfl rfl rfl (fs_oc fs_ob0 (fs_oc fs_ob0 trivial)) rfl rfl (Nat.le_of_ble_eq_true rfl) ⟨Or.inr (Nat.le_of_ble_eq_true rfl), Or.inr fs_ob20⟩ (by decide) ?_
      refine fs_c_worthOf ((d1.p pf).b) ((d1.p pf).S) (by have e2 := congrFun (pf 20 (by decide)) 1; omega) (d1.pp pf pp) ?_
      refine fs_r_iret (a := (ec_worth (mk P) (sst P 32) h)) (L1 := [some (.inr (.ref 0)), some (.inl w), some (.inl h)]) (M1 := P) (ob := []) rfl rfl trivial (Or.inl rfl) ?_
      exact fs_qi (by unfold rq_worth; rw [if_pos (by omega)]; exact (d1.p pf).worth (by omega) (by have e2 := congrFun (pf 20 (by decide)) 1; omega)) (hq0 _ (q1.tr (cq.p pf)))
    refine fs_r_if (a := 0) (L1 := [some (.inr (.ref 0)), some (.inl w), some (.inl h)]) (st1 := []) (M1 := M) (ob := []) rfl rfl trivial (fun h => absurd h (by decide : ¬ (¬ (0 : Int) = 0))) (fun _ => ?_)
    refine fs_r_iret (a := (-1000000)) (L1 := [some (.inr (.ref 0)), some (.inl w), some (.inl h)]) (M1 := M) (ob := []) rfl rfl trivial (Or.inl rfl) ?_
    exact fs_qi (by unfold rq_worth; rw [if_neg (by omega)]) (hq0 _ cq.rf)
  refine fs_r_if (a := 0) (L1 := [some (.inr (.ref 0)), some (.inl w), some (.inl h)]) (st1 := []) (M1 := M) (ob := []) rfl rfl trivial (fun _ => ?_) (fun h => absurd (by decide : (0 : Int) = 0) h)
  refine fs_r_iret (a := (-1000000)) (L1 := [some (.inr (.ref 0)), some (.inl w), some (.inl h)]) (M1 := M) (ob := []) rfl rfl trivial (Or.inl rfl) ?_
  exact fs_qi (by unfold rq_worth; rw [if_neg (by omega)]) (hq0 _ cq.rf)

theorem fs_c_mustSell {d : Nat} {M : fs_M} {Q : Option fs_V → fs_M → Prop} {w : Int} {h : Int} {a : Int} {N : Int → Int} (hV : vw 5 M N) (hN : fs_NI N) (hq0 : ∀ (M2 : fs_M), (cq M M2) → Q (some (.inl (rq_mustSell N w h a))) M2) : fs_W (d + 6) 100 0 [some (.inr (.ref 0)), some (.inl w), some (.inl h), some (.inl a), none] [] M Q := by
  obtain ⟨v0, v1, vcv, vfc, vhd, vln, vlc, vit⟩ := vw5 hV
  obtain ⟨⟨hA0, hA1⟩, ⟨hH0, hH1⟩, hcv, hfc, hhd, hln, hsh, hit, hst⟩ := id hN
  refine fs_r_call (sta := true) (idx := 243) (as := [.inl w]) (rest := []) (L1 := [some (.inr (.ref 0)), some (.inl w), some (.inl h), some (.inl a), none]) (st1 := [.inl w]) (M1 := M) (ob := []) rfl rfl rfl trivial rfl rfl (Nat.le_of_ble_eq_true rfl) ⟨Or.inr (Nat.le_of_ble_eq_true rfl), trivial⟩ (by decide) ?_
  refine fs_c_isState (fun (f1 : 0 ≤ w ∧ w ≤ 3) => ?_) (fun (f2 : ¬ (0 ≤ w ∧ w ≤ 3)) => ?_)
  · refine fs_r_if (a := 1) (L1 := [some (.inr (.ref 0)), some (.inl w), some (.inl h), some (.inl a), none]) (st1 := []) (M1 := M) (ob := []) rfl rfl trivial (fun h => absurd h (by decide : ¬ ((1 : Int) = 0))) (fun _ => ?_)
    refine fs_r_call (sta := false) (idx := 117) (as := [.inr (.ref 5), .inl h]) (rest := []) (L1 := [some (.inr (.ref 0)), some (.inl w), some (.inl h), some (.inl a), none]) (st1 := [.inl h, .inr (.ref 5)]) (M1 := M) (ob := [0 < fs_N ∧ fs_kd 0 = 5]) rfl rfl rfl (fs_oc fs_ob0 trivial) rfl rfl (Nat.le_of_ble_eq_true rfl) ⟨Or.inr (Nat.le_of_ble_eq_true rfl), Or.inr fs_ob5⟩ (by decide) ?_
    refine fs_c_isHouse (fun (f3 : 0 ≤ h ∧ h < M 5 1) => ?_) (fun (f4 : ¬ (0 ≤ h ∧ h < M 5 1)) => ?_)
    · refine fs_r_if (a := 1) (L1 := [some (.inr (.ref 0)), some (.inl w), some (.inl h), some (.inl a), none]) (st1 := []) (M1 := M) (ob := []) rfl rfl trivial (fun h => absurd h (by decide : ¬ ((1 : Int) = 0))) (fun _ => ?_)
      refine fs_r_icmp (a := a) (y := (-1)) (L1 := [some (.inr (.ref 0)), some (.inl w), some (.inl h), some (.inl a), none]) (st1 := []) (M1 := M) (ob := []) rfl rfl trivial (fun (h5 : a = (-1)) => ?_) (fun (h5 : ¬ (a = (-1))) => ?_)
      · refine fs_r_call (sta := false) (idx := 181) (as := [.inr (.ref 0), .inl w]) (rest := []) (L1 := [some (.inr (.ref 0)), some (.inl w), some (.inl h), some (.inl a), none]) (st1 := [.inl w, .inr (.ref 0)]) (M1 := M) (ob := []) rfl rfl rfl trivial rfl rfl (Nat.le_of_ble_eq_true rfl) ⟨Or.inr (Nat.le_of_ble_eq_true rfl), Or.inr fs_ob0⟩ (by decide) ?_
        refine fs_c_find (N := N) (by assumption) (by assumption) (by omega) (fun (x : Int) (V : fs_M) (q1 : cq M V) (d1 : fdE V (ec_pl N) (ec_std (ec_pl N) w)) (k1 : (w = 1 → x = (ec_k (ec_pl N) (ec_calm (ec_pl N)) : Nat)) ∧ (w = 2 → x = (ec_k (ec_pl N) (ec_panic (ec_pl N)) : Nat))) => ?_)
        have e0 := d1.n0
        have e00 : ec_pl N 0 0 = N 0 := rfl
        have e1 := d1.n1
        have e11 : ec_pl N 0 1 = N 1 := rfl
        refine fs_r_call (sta := false) (idx := 257) (as := [.inr (.ref 20), .inr (.ref 32)]) (rest := []) (L1 := [some (.inr (.ref 0)), some (.inl w), some (.inl h), some (.inl a), none]) (st1 := [.inr (.ref 32), .inr (.ref 20)]) (M1 := V) (ob := [0 < fs_N ∧ fs_kd 0 = 5, 0 < fs_N ∧ fs_kd 0 = 5]) rfl rfl rfl (fs_oc fs_ob0 (fs_oc fs_ob0 trivial)) rfl rfl (Nat.le_of_ble_eq_true rfl) ⟨Or.inr (Nat.le_of_ble_eq_true rfl), Or.inr fs_ob20⟩ (by decide) ?_
        refine fs_c_priceBy (d1.b) (d1.S) (fun (P : fs_M) (pf : ∀ r, r ≠ 26 → P r = V r) (pp : ∀ q, 0 ≤ q → q < V 20 0 → P 26 q = ec_price (mk V) q (V 33 q)) => ?_)
        have d2 := d1.p pf
        have p1 := congrFun (pf 20 (by decide)) 1
        have p0 := congrFun (pf 20 (by decide)) 0
        have wb : -100000 ≤ ec_worth (mk P) (sst P 32) h ∧ ec_worth (mk P) (sst P 32) h ≤ 100000 := mk_worth_b d2.b (by omega) (fun q q0 q1 => by rw [sst_at ⟨q0, q1⟩]; exact (d2.S.2 q q0 q1).1)
        have we : ec_worth (mk P) (sst P 32) h = ec_worth (ec_pl N) (ec_std (ec_pl N) w) h := d2.worth (by omega) (by omega)
        have de : ec_due (mk P) h (ec_worth (mk P) (sst P 32) h) = ec_due (ec_pl N) h (ec_worth (ec_pl N) (ec_std (ec_pl N) w) h) := by rw [d2.2.1.due (by omega) (by show h < P 20 1; omega), we]
        have db := mk_due_b (h := h) (w := ec_worth (mk P) (sst P 32) h) d2.b (by omega)
        refine fs_r_call (sta := false) (idx := 261) (as := [.inr (.ref 20), .inl h, .inr (.ref 32)]) (rest := [.inl h, .inr (.ref 20)]) (L1 := [some (.inr (.ref 0)), some (.inl w), some (.inl h), some (.inl a), none]) (st1 := [.inr (.ref 32), .inl h, .inr (.ref 20), .inl h, .inr (.ref 20)]) (M1 := P) (ob := [0 < fs_N ∧ fs_kd 0 = 5, 0 < fs_N ∧ fs_kd 0 = 5, 0 < fs_N ∧ fs_kd 0 = 5]) rfl rfl (fs_exA 6 (o1 := [0 < fs_N ∧ fs_kd 0 = 5, 0 < fs_N ∧ fs_kd 0 = 5]) (L1 := [some (.inr (.ref 0)), some (.inl w), some (.inl h), some (.inl a), none]) (st1 := [.inl h, .inr (.ref 20), .inl h, .inr (.ref 20)]) (M1 := P) (o2 := [0 < fs_N ∧ fs_kd 0 = 5]) rfl rfl) (fs_oc fs_ob0 (fs_oc fs_ob0 (fs_oc fs_ob0 trivial))) rfl rfl (Nat.le_of_ble_eq_true rfl) ⟨Or.inr (Nat.le_of_ble_eq_true rfl), Or.inr fs_ob20⟩ (by decide) ?_
        refine fs_c_worthOf ((d1.p pf).b) ((d1.p pf).S) (by have e2 := congrFun (pf 20 (by decide)) 1; omega) (d1.pp pf pp) ?_
        refine fs_r_call (sta := false) (idx := 265) (as := [.inr (.ref 20), .inl h, .inl (ec_worth (mk P) (sst P 32) h)]) (rest := []) (L1 := [some (.inr (.ref 0)), some (.inl w), some (.inl h), some (.inl a), none]) (st1 := [.inl (ec_worth (mk P) (sst P 32) h), .inl h, .inr (.ref 20)]) (M1 := P) (ob := []) rfl rfl rfl trivial rfl rfl (Nat.le_of_ble_eq_true rfl) ⟨Or.inr (Nat.le_of_ble_eq_true rfl), Or.inr fs_ob20⟩ (by decide) ?_
        refine fs_c_dueOf (d2.b) (by omega) (wb) ?_
        refine fs_r_icmp (a := a) (y := (-1)) (L1 := [some (.inr (.ref 0)), some (.inl w), some (.inl h), some (.inl a), some (.inl (ec_due (mk P) h (ec_worth (mk P) (sst P 32) h)))]) (st1 := []) (M1 := P) (ob := [4 < 5]) rfl rfl (fs_oc (by decide) trivial) (fun (h6 : ¬ a = (-1)) => ?_) (fun (h6 : ¬ (¬ a = (-1))) => ?_)
        · refine fs_r_call (sta := true) (idx := 268) (as := [.inr (.ref 37)]) (rest := []) (L1 := [some (.inr (.ref 0)), some (.inl w), some (.inl h), some (.inl a), some (.inl (ec_due (mk P) h (ec_worth (mk P) (sst P 32) h)))]) (st1 := [.inr (.ref 37)]) (M1 := P) (ob := [0 < fs_N ∧ fs_kd 0 = 5]) rfl rfl rfl (fs_oc fs_ob0 trivial) rfl rfl (Nat.le_of_ble_eq_true rfl) ⟨Or.inr (Nat.le_of_ble_eq_true rfl), trivial⟩ (by decide) ?_
          refine fs_c_clear (n := 4) (by first | assumption | exact ⟨by decide, by decide, by decide⟩) (by omega) ?_
          have ec : mk (fs_cl P 37 4) = mk P := mk_eq (fun r a b c => fs_cl_o (by omega))
          have fb : mk_b (fs_cl P 37 4) := mk_b.fr (fun r a b c => fs_cl_o (by omega)) d2.b
          have g1 : fs_cl P 37 4 20 1 = P 20 1 := congrFun (fs_cl_o (by decide)) 1
          refine fs_r_call (sta := false) (idx := 272) (as := [.inr (.ref 20), .inl h, .inl (ec_due (mk P) h (ec_worth (mk P) (sst P 32) h)), .inr (.ref 37)]) (rest := []) (L1 := [some (.inr (.ref 0)), some (.inl w), some (.inl h), some (.inl a), some (.inl (ec_due (mk P) h (ec_worth (mk P) (sst P 32) h)))]) (st1 := [.inr (.ref 37), .inl (ec_due (mk P) h (ec_worth (mk P) (sst P 32) h)), .inl h, .inr (.ref 20)]) (M1 := (fs_cl P 37 4)) (ob := [0 < fs_N ∧ fs_kd 0 = 5, 0 < fs_N ∧ fs_kd 0 = 5]) rfl rfl rfl (fs_oc fs_ob0 (fs_oc fs_ob0 trivial)) rfl rfl (Nat.le_of_ble_eq_true rfl) ⟨Or.inr (Nat.le_of_ble_eq_true rfl), Or.inr fs_ob20⟩ (by decide) ?_
          refine fs_c_addSales37 (fb) (by omega) (by omega) (fun q q0 q1 => by rw [fs_cl_i q0 q1]; omega) (fun (R : fs_M) (rf : ∀ r, r ≠ 37 → R r = (fs_cl P 37 4) r) (rp : ∀ q, 0 ≤ q → q < 4 → R 37 q = (fs_cl P 37 4) 37 q + (if q < (fs_cl P 37 4) 20 0 then ec_part (mk (fs_cl P 37 4)) h (ec_due (mk P) h (ec_worth (mk P) (sst P 32) h)) q else 0)) => ?_)
          refine fs_r_iret (a := (R 37 a)) (L1 := [some (.inr (.ref 0)), some (.inl w), some (.inl h), some (.inl a), some (.inl (ec_due (mk P) h (ec_worth (mk P) (sst P 32) h)))]) (M1 := R) (ob := [0 < fs_N ∧ fs_kd 0 = 5, (37 < fs_N ∧ fs_kd 37 = 100) ∧ (0 : Int) ≤ a ∧ a < fs_ln 37]) rfl rfl (fs_oc fs_ob0 (fs_oc (fs_ar37 (by omega) (by omega)) trivial)) (Or.inl rfl) ?_
          have ra := rp a (by omega) (by omega)
          rw [fs_cl_i (by omega) (by omega), ec, if_pos (by rw [fs_cl_o (by decide)]; omega), de, d2.2.1.part (by omega) (by show h < P 20 1; omega) (by omega) (by show a < P 20 0; omega)] at ra
          exact fs_qi (by unfold rq_mustSell; rw [if_pos (by omega), if_neg (by omega), ra]; omega) (hq0 _ ((q1.tr (cq.p pf)).tr (fun r z => by rw [rf r (by omega), fs_cl_o (by omega)])))
        refine fs_r_iret (a := (ec_due (mk P) h (ec_worth (mk P) (sst P 32) h))) (L1 := [some (.inr (.ref 0)), some (.inl w), some (.inl h), some (.inl a), some (.inl (ec_due (mk P) h (ec_worth (mk P) (sst P 32) h)))]) (M1 := P) (ob := []) rfl rfl trivial (Or.inl rfl) ?_
        exact fs_qi (by unfold rq_mustSell; rw [if_pos (by omega), if_pos (by omega)]; exact de) (hq0 _ (q1.tr (cq.p pf)))
      refine fs_r_call (sta := false) (idx := 128) (as := [.inr (.ref 5), .inl a]) (rest := []) (L1 := [some (.inr (.ref 0)), some (.inl w), some (.inl h), some (.inl a), none]) (st1 := [.inl a, .inr (.ref 5)]) (M1 := M) (ob := [0 < fs_N ∧ fs_kd 0 = 5]) rfl rfl rfl (fs_oc fs_ob0 trivial) rfl rfl (Nat.le_of_ble_eq_true rfl) ⟨Or.inr (Nat.le_of_ble_eq_true rfl), Or.inr fs_ob5⟩ (by decide) ?_
      refine fs_c_isAsset (fun (f7 : 0 ≤ a ∧ a < M 5 0) => ?_) (fun (f8 : ¬ (0 ≤ a ∧ a < M 5 0)) => ?_)
      · refine fs_r_if (a := 1) (L1 := [some (.inr (.ref 0)), some (.inl w), some (.inl h), some (.inl a), none]) (st1 := []) (M1 := M) (ob := []) rfl rfl trivial (fun _ => ?_) (fun h => absurd (by decide : ¬ (1 : Int) = 0) h)
        refine fs_r_call (sta := false) (idx := 181) (as := [.inr (.ref 0), .inl w]) (rest := []) (L1 := [some (.inr (.ref 0)), some (.inl w), some (.inl h), some (.inl a), none]) (st1 := [.inl w, .inr (.ref 0)]) (M1 := M) (ob := []) rfl rfl rfl trivial rfl rfl (Nat.le_of_ble_eq_true rfl) ⟨Or.inr (Nat.le_of_ble_eq_true rfl), Or.inr fs_ob0⟩ (by decide) ?_
        refine fs_c_find (N := N) (by assumption) (by assumption) (by omega) (fun (x : Int) (V : fs_M) (q1 : cq M V) (d1 : fdE V (ec_pl N) (ec_std (ec_pl N) w)) (k1 : (w = 1 → x = (ec_k (ec_pl N) (ec_calm (ec_pl N)) : Nat)) ∧ (w = 2 → x = (ec_k (ec_pl N) (ec_panic (ec_pl N)) : Nat))) => ?_)
        have e0 := d1.n0
        have e00 : ec_pl N 0 0 = N 0 := rfl
        have e1 := d1.n1
        have e11 : ec_pl N 0 1 = N 1 := rfl
        refine fs_r_call (sta := false) (idx := 257) (as := [.inr (.ref 20), .inr (.ref 32)]) (rest := []) (L1 := [some (.inr (.ref 0)), some (.inl w), some (.inl h), some (.inl a), none]) (st1 := [.inr (.ref 32), .inr (.ref 20)]) (M1 := V) (ob := [0 < fs_N ∧ fs_kd 0 = 5, 0 < fs_N ∧ fs_kd 0 = 5]) rfl rfl rfl (fs_oc fs_ob0 (fs_oc fs_ob0 trivial)) rfl rfl (Nat.le_of_ble_eq_true rfl) ⟨Or.inr (Nat.le_of_ble_eq_true rfl), Or.inr fs_ob20⟩ (by decide) ?_
        refine fs_c_priceBy (d1.b) (d1.S) (fun (P : fs_M) (pf : ∀ r, r ≠ 26 → P r = V r) (pp : ∀ q, 0 ≤ q → q < V 20 0 → P 26 q = ec_price (mk V) q (V 33 q)) => ?_)
        have d2 := d1.p pf
        have p1 := congrFun (pf 20 (by decide)) 1
        have p0 := congrFun (pf 20 (by decide)) 0
        have wb : -100000 ≤ ec_worth (mk P) (sst P 32) h ∧ ec_worth (mk P) (sst P 32) h ≤ 100000 := mk_worth_b d2.b (by omega) (fun q q0 q1 => by rw [sst_at ⟨q0, q1⟩]; exact (d2.S.2 q q0 q1).1)
        have we : ec_worth (mk P) (sst P 32) h = ec_worth (ec_pl N) (ec_std (ec_pl N) w) h := d2.worth (by omega) (by omega)
        have de : ec_due (mk P) h (ec_worth (mk P) (sst P 32) h) = ec_due (ec_pl N) h (ec_worth (ec_pl N) (ec_std (ec_pl N) w) h) := by rw [d2.2.1.due (by omega) (by show h < P 20 1; omega), we]
        have db := mk_due_b (h := h) (w := ec_worth (mk P) (sst P 32) h) d2.b (by omega)
        refine fs_r_call (sta := false) (idx := 261) (as := [.inr (.ref 20), .inl h, .inr (.ref 32)]) (rest := [.inl h, .inr (.ref 20)]) (L1 := [some (.inr (.ref 0)), some (.inl w), some (.inl h), some (.inl a), none]) (st1 := [.inr (.ref 32), .inl h, .inr (.ref 20), .inl h, .inr (.ref 20)]) (M1 := P) (ob := [0 < fs_N ∧ fs_kd 0 = 5, 0 < fs_N ∧ fs_kd 0 = 5, 0 < fs_N ∧ fs_kd 0 = 5]) rfl rfl (fs_exA 6 (o1 := [0 < fs_N ∧ fs_kd 0 = 5, 0 < fs_N ∧ fs_kd 0 = 5]) (L1 := [some (.inr (.ref 0)), some (.inl w), some (.inl h), some (.inl a), none]) (st1 := [.inl h, .inr (.ref 20), .inl h, .inr (.ref 20)]) (M1 := P) (o2 := [0 < fs_N ∧ fs_kd 0 = 5]) rfl rfl) (fs_oc fs_ob0 (fs_oc fs_ob0 (fs_oc fs_ob0 trivial))) rfl rfl (Nat.le_of_ble_eq_true rfl) ⟨Or.inr (Nat.le_of_ble_eq_true rfl), Or.inr fs_ob20⟩ (by decide) ?_
        refine fs_c_worthOf ((d1.p pf).b) ((d1.p pf).S) (by have e2 := congrFun (pf 20 (by decide)) 1; omega) (d1.pp pf pp) ?_
        refine fs_r_call (sta := false) (idx := 265) (as := [.inr (.ref 20), .inl h, .inl (ec_worth (mk P) (sst P 32) h)]) (rest := []) (L1 := [some (.inr (.ref 0)), some (.inl w), some (.inl h), some (.inl a), none]) (st1 := [.inl (ec_worth (mk P) (sst P 32) h), .inl h, .inr (.ref 20)]) (M1 := P) (ob := []) rfl rfl rfl trivial rfl rfl (Nat.le_of_ble_eq_true rfl) ⟨Or.inr (Nat.le_of_ble_eq_true rfl), Or.inr fs_ob20⟩ (by decide) ?_
        refine fs_c_dueOf (d2.b) (by omega) (wb) ?_
        refine fs_r_icmp (a := a) (y := (-1)) (L1 := [some (.inr (.ref 0)), some (.inl w), some (.inl h), some (.inl a), some (.inl (ec_due (mk P) h (ec_worth (mk P) (sst P 32) h)))]) (st1 := []) (M1 := P) (ob := [4 < 5]) rfl rfl (fs_oc (by decide) trivial) (fun (h9 : ¬ a = (-1)) => ?_) (fun (h9 : ¬ (¬ a = (-1))) => ?_)
        · refine fs_r_call (sta := true) (idx := 268) (as := [.inr (.ref 37)]) (rest := []) (L1 := [some (.inr (.ref 0)), some (.inl w), some (.inl h), some (.inl a), some (.inl (ec_due (mk P) h (ec_worth (mk P) (sst P 32) h)))]) (st1 := [.inr (.ref 37)]) (M1 := P) (ob := [0 < fs_N ∧ fs_kd 0 = 5]) rfl rfl rfl (fs_oc fs_ob0 trivial) rfl rfl (Nat.le_of_ble_eq_true rfl) ⟨Or.inr (Nat.le_of_ble_eq_true rfl), trivial⟩ (by decide) ?_
          refine fs_c_clear (n := 4) (by first | assumption | exact ⟨by decide, by decide, by decide⟩) (by omega) ?_
          have ec : mk (fs_cl P 37 4) = mk P := mk_eq (fun r a b c => fs_cl_o (by omega))
          have fb : mk_b (fs_cl P 37 4) := mk_b.fr (fun r a b c => fs_cl_o (by omega)) d2.b
          have g1 : fs_cl P 37 4 20 1 = P 20 1 := congrFun (fs_cl_o (by decide)) 1
          refine fs_r_call (sta := false) (idx := 272) (as := [.inr (.ref 20), .inl h, .inl (ec_due (mk P) h (ec_worth (mk P) (sst P 32) h)), .inr (.ref 37)]) (rest := []) (L1 := [some (.inr (.ref 0)), some (.inl w), some (.inl h), some (.inl a), some (.inl (ec_due (mk P) h (ec_worth (mk P) (sst P 32) h)))]) (st1 := [.inr (.ref 37), .inl (ec_due (mk P) h (ec_worth (mk P) (sst P 32) h)), .inl h, .inr (.ref 20)]) (M1 := (fs_cl P 37 4)) (ob := [0 < fs_N ∧ fs_kd 0 = 5, 0 < fs_N ∧ fs_kd 0 = 5]) rfl rfl rfl (fs_oc fs_ob0 (fs_oc fs_ob0 trivial)) rfl rfl (Nat.le_of_ble_eq_true rfl) ⟨Or.inr (Nat.le_of_ble_eq_true rfl), Or.inr fs_ob20⟩ (by decide) ?_
          refine fs_c_addSales37 (fb) (by omega) (by omega) (fun q q0 q1 => by rw [fs_cl_i q0 q1]; omega) (fun (R : fs_M) (rf : ∀ r, r ≠ 37 → R r = (fs_cl P 37 4) r) (rp : ∀ q, 0 ≤ q → q < 4 → R 37 q = (fs_cl P 37 4) 37 q + (if q < (fs_cl P 37 4) 20 0 then ec_part (mk (fs_cl P 37 4)) h (ec_due (mk P) h (ec_worth (mk P) (sst P 32) h)) q else 0)) => ?_)
          refine fs_r_iret (a := (R 37 a)) (L1 := [some (.inr (.ref 0)), some (.inl w), some (.inl h), some (.inl a), some (.inl (ec_due (mk P) h (ec_worth (mk P) (sst P 32) h)))]) (M1 := R) (ob := [0 < fs_N ∧ fs_kd 0 = 5, (37 < fs_N ∧ fs_kd 37 = 100) ∧ (0 : Int) ≤ a ∧ a < fs_ln 37]) rfl rfl (fs_oc fs_ob0 (fs_oc (fs_ar37 (by omega) (by omega)) trivial)) (Or.inl rfl) ?_
          have ra := rp a (by omega) (by omega)
          rw [fs_cl_i (by omega) (by omega), ec, if_pos (by rw [fs_cl_o (by decide)]; omega), de, d2.2.1.part (by omega) (by show h < P 20 1; omega) (by omega) (by show a < P 20 0; omega)] at ra
          exact fs_qi (by unfold rq_mustSell; rw [if_pos (by omega), if_neg (by omega), ra]; omega) (hq0 _ ((q1.tr (cq.p pf)).tr (fun r z => by rw [rf r (by omega), fs_cl_o (by omega)])))
        refine fs_r_iret (a := (ec_due (mk P) h (ec_worth (mk P) (sst P 32) h))) (L1 := [some (.inr (.ref 0)), some (.inl w), some (.inl h), some (.inl a), some (.inl (ec_due (mk P) h (ec_worth (mk P) (sst P 32) h)))]) (M1 := P) (ob := []) rfl rfl trivial (Or.inl rfl) ?_
        exact fs_qi (by unfold rq_mustSell; rw [if_pos (by omega), if_pos (by omega)]; exact de) (hq0 _ (q1.tr (cq.p pf)))
      refine fs_r_if (a := 0) (L1 := [some (.inr (.ref 0)), some (.inl w), some (.inl h), some (.inl a), none]) (st1 := []) (M1 := M) (ob := []) rfl rfl trivial (fun h => absurd h (by decide : ¬ (¬ (0 : Int) = 0))) (fun _ => ?_)
      refine fs_r_iret (a := (-1)) (L1 := [some (.inr (.ref 0)), some (.inl w), some (.inl h), some (.inl a), none]) (M1 := M) (ob := []) rfl rfl trivial (Or.inl rfl) ?_
      exact fs_qi (by unfold rq_mustSell; rw [if_neg (by omega)]) (hq0 _ cq.rf)
    refine fs_r_if (a := 0) (L1 := [some (.inr (.ref 0)), some (.inl w), some (.inl h), some (.inl a), none]) (st1 := []) (M1 := M) (ob := []) rfl rfl trivial (fun _ => ?_) (fun h => absurd (by decide : (0 : Int) = 0) h)
    refine fs_r_iret (a := (-1)) (L1 := [some (.inr (.ref 0)), some (.inl w), some (.inl h), some (.inl a), none]) (M1 := M) (ob := []) rfl rfl trivial (Or.inl rfl) ?_
    exact fs_qi (by unfold rq_mustSell; rw [if_neg (by omega)]) (hq0 _ cq.rf)
  refine fs_r_if (a := 0) (L1 := [some (.inr (.ref 0)), some (.inl w), some (.inl h), some (.inl a), none]) (st1 := []) (M1 := M) (ob := []) rfl rfl trivial (fun _ => ?_) (fun h => absurd (by decide : (0 : Int) = 0) h)
  refine fs_r_iret (a := (-1)) (L1 := [some (.inr (.ref 0)), some (.inl w), some (.inl h), some (.inl a), none]) (M1 := M) (ob := []) rfl rfl trivial (Or.inl rfl) ?_
  exact fs_qi (by unfold rq_mustSell; rw [if_neg (by omega)]) (hq0 _ cq.rf)

theorem fs_c_round {d : Nat} {M : fs_M} {Q : Option fs_V → fs_M → Prop} {k : Int} {x : Int} {N : Int → Int} (hV : vw 5 M N) (hN : fs_NI N) (hq0 : ∀ (M2 : fs_M), (cq M M2) → Q (some (.inl (rq_round N k x))) M2) : fs_W (d + 5) 101 0 [some (.inr (.ref 0)), some (.inl k), some (.inl x)] [] M Q := by
  obtain ⟨v0, v1, vcv, vfc, vhd, vln, vlc, vit⟩ := vw5 hV
  obtain ⟨⟨hA0, hA1⟩, ⟨hH0, hH1⟩, hcv, hfc, hhd, hln, hsh, hit, hst⟩ := id hN
  refine fs_r_call (sta := true) (idx := 131) (as := [.inl k, .inl 0, .inl 2000]) (rest := []) (L1 := [some (.inr (.ref 0)), some (.inl k), some (.inl x)]) (st1 := [.inl 2000, .inl 0, .inl k]) (M1 := M) (ob := []) rfl rfl rfl trivial rfl rfl (Nat.le_of_ble_eq_true rfl) ⟨Or.inr (Nat.le_of_ble_eq_true rfl), trivial⟩ (by decide) ?_
  refine fs_c_isWithin (fun (f1 : 0 ≤ k ∧ k ≤ 2000) => ?_) (fun (f2 : ¬ (0 ≤ k ∧ k ≤ 2000)) => ?_)
  · refine fs_r_if (a := 1) (L1 := [some (.inr (.ref 0)), some (.inl k), some (.inl x)]) (st1 := []) (M1 := M) (ob := []) rfl rfl trivial (fun h => absurd h (by decide : ¬ ((1 : Int) = 0))) (fun _ => ?_)
    refine fs_r_call (sta := false) (idx := 246) (as := [.inr (.ref 0), .inl x]) (rest := []) (L1 := [some (.inr (.ref 0)), some (.inl k), some (.inl x)]) (st1 := [.inl x, .inr (.ref 0)]) (M1 := M) (ob := []) rfl rfl rfl trivial rfl rfl (Nat.le_of_ble_eq_true rfl) ⟨Or.inr (Nat.le_of_ble_eq_true rfl), Or.inr fs_ob0⟩ (by decide) ?_
    refine fs_c_isTold (fun (f3 : (0 ≤ x ∧ x < M 5 0) ∨ (4 ≤ x ∧ x ≤ 7)) => ?_) (fun (f4 : ¬ ((0 ≤ x ∧ x < M 5 0) ∨ (4 ≤ x ∧ x ≤ 7))) => ?_)
    · refine fs_r_if (a := 1) (L1 := [some (.inr (.ref 0)), some (.inl k), some (.inl x)]) (st1 := []) (M1 := M) (ob := []) rfl rfl trivial (fun _ => ?_) (fun h => absurd (by decide : ¬ (1 : Int) = 0) h)
      refine fs_r_call (sta := false) (idx := 276) (as := [.inr (.ref 0), .inl k]) (rest := []) (L1 := [some (.inr (.ref 0)), some (.inl k), some (.inl x)]) (st1 := [.inl k, .inr (.ref 0)]) (M1 := M) (ob := []) rfl rfl rfl trivial rfl rfl (Nat.le_of_ble_eq_true rfl) ⟨Or.inr (Nat.le_of_ble_eq_true rfl), Or.inr fs_ob0⟩ (by decide) ?_
      refine fs_c_findRound (N := N) (by assumption) (by assumption) (by omega) (fun (V : fs_M) (q1 : cq M V) (d1 : fdE V (ec_pl N) (ec_it (ec_pl N) (ec_calm (ec_pl N)) (Int.toNat k))) (f5 : ∀ r, (r < 20 ∨ 35 < r) → V r = M r) => ?_)
      refine fs_r_call (sta := false) (idx := 249) (as := [.inr (.ref 20), .inr (.ref 32), .inl x]) (rest := []) (L1 := [some (.inr (.ref 0)), some (.inl k), some (.inl x)]) (st1 := [.inl x, .inr (.ref 32), .inr (.ref 20)]) (M1 := V) (ob := [0 < fs_N ∧ fs_kd 0 = 5, 0 < fs_N ∧ fs_kd 0 = 5]) rfl rfl rfl (fs_oc fs_ob0 (fs_oc fs_ob0 trivial)) rfl rfl (Nat.le_of_ble_eq_true rfl) ⟨Or.inr (Nat.le_of_ble_eq_true rfl), Or.inr fs_ob20⟩ (by decide) ?_
      refine fs_c_tell (d1.b) (d1.S) (by have e := d1.n0; have e2 : ec_pl N 0 0 = N 0 := rfl; omega) ?_
      refine fs_r_iret (a := (ec_tell (mk V) (sst V 32) x)) (L1 := [some (.inr (.ref 0)), some (.inl k), some (.inl x)]) (M1 := V) (ob := []) rfl rfl trivial (Or.inl rfl) ?_
      exact fs_qi (by unfold rq_round; rw [if_pos (by omega), d1.tell]) (hq0 _ q1)
    refine fs_r_if (a := 0) (L1 := [some (.inr (.ref 0)), some (.inl k), some (.inl x)]) (st1 := []) (M1 := M) (ob := []) rfl rfl trivial (fun h => absurd h (by decide : ¬ (¬ (0 : Int) = 0))) (fun _ => ?_)
    refine fs_r_iret (a := (-1)) (L1 := [some (.inr (.ref 0)), some (.inl k), some (.inl x)]) (M1 := M) (ob := []) rfl rfl trivial (Or.inl rfl) ?_
    exact fs_qi (by unfold rq_round; rw [if_neg (by omega)]) (hq0 _ cq.rf)
  refine fs_r_if (a := 0) (L1 := [some (.inr (.ref 0)), some (.inl k), some (.inl x)]) (st1 := []) (M1 := M) (ob := []) rfl rfl trivial (fun _ => ?_) (fun h => absurd (by decide : (0 : Int) = 0) h)
  refine fs_r_iret (a := (-1)) (L1 := [some (.inr (.ref 0)), some (.inl k), some (.inl x)]) (M1 := M) (ob := []) rfl rfl trivial (Or.inl rfl) ?_
  exact fs_qi (by unfold rq_round; rw [if_neg (by omega)]) (hq0 _ cq.rf)

theorem fs_c_worthIn {d : Nat} {M : fs_M} {Q : Option fs_V → fs_M → Prop} {k : Int} {h : Int} {N : Int → Int} (hV : vw 5 M N) (hN : fs_NI N) (hq0 : ∀ (M2 : fs_M), (cq M M2) → Q (some (.inl (rq_worthIn N k h))) M2) : fs_W (d + 5) 102 0 [some (.inr (.ref 0)), some (.inl k), some (.inl h)] [] M Q := by
  obtain ⟨v0, v1, vcv, vfc, vhd, vln, vlc, vit⟩ := vw5 hV
  obtain ⟨⟨hA0, hA1⟩, ⟨hH0, hH1⟩, hcv, hfc, hhd, hln, hsh, hit, hst⟩ := id hN
  refine fs_r_call (sta := true) (idx := 131) (as := [.inl k, .inl 0, .inl 2000]) (rest := []) (L1 := [some (.inr (.ref 0)), some (.inl k), some (.inl h)]) (st1 := [.inl 2000, .inl 0, .inl k]) (M1 := M) (ob := []) rfl rfl rfl trivial rfl rfl (Nat.le_of_ble_eq_true rfl) ⟨Or.inr (Nat.le_of_ble_eq_true rfl), trivial⟩ (by decide) ?_
  refine fs_c_isWithin (fun (f1 : 0 ≤ k ∧ k ≤ 2000) => ?_) (fun (f2 : ¬ (0 ≤ k ∧ k ≤ 2000)) => ?_)
  · refine fs_r_if (a := 1) (L1 := [some (.inr (.ref 0)), some (.inl k), some (.inl h)]) (st1 := []) (M1 := M) (ob := []) rfl rfl trivial (fun h => absurd h (by decide : ¬ ((1 : Int) = 0))) (fun _ => ?_)
    refine fs_r_call (sta := false) (idx := 117) (as := [.inr (.ref 5), .inl h]) (rest := []) (L1 := [some (.inr (.ref 0)), some (.inl k), some (.inl h)]) (st1 := [.inl h, .inr (.ref 5)]) (M1 := M) (ob := [0 < fs_N ∧ fs_kd 0 = 5]) rfl rfl rfl (fs_oc fs_ob0 trivial) rfl rfl (Nat.le_of_ble_eq_true rfl) ⟨Or.inr (Nat.le_of_ble_eq_true rfl), Or.inr fs_ob5⟩ (by decide) ?_
    refine fs_c_isHouse (fun (f3 : 0 ≤ h ∧ h < M 5 1) => ?_) (fun (f4 : ¬ (0 ≤ h ∧ h < M 5 1)) => ?_)
    · refine fs_r_if (a := 1) (L1 := [some (.inr (.ref 0)), some (.inl k), some (.inl h)]) (st1 := []) (M1 := M) (ob := []) rfl rfl trivial (fun _ => ?_) (fun h => absurd (by decide : ¬ (1 : Int) = 0) h)
      refine fs_r_call (sta := false) (idx := 276) (as := [.inr (.ref 0), .inl k]) (rest := []) (L1 := [some (.inr (.ref 0)), some (.inl k), some (.inl h)]) (st1 := [.inl k, .inr (.ref 0)]) (M1 := M) (ob := []) rfl rfl rfl trivial rfl rfl (Nat.le_of_ble_eq_true rfl) ⟨Or.inr (Nat.le_of_ble_eq_true rfl), Or.inr fs_ob0⟩ (by decide) ?_
      refine fs_c_findRound (N := N) (by assumption) (by assumption) (by omega) (fun (V : fs_M) (q1 : cq M V) (d1 : fdE V (ec_pl N) (ec_it (ec_pl N) (ec_calm (ec_pl N)) (Int.toNat k))) (f5 : ∀ r, (r < 20 ∨ 35 < r) → V r = M r) => ?_)
      have e0 := d1.n0
      have e00 : ec_pl N 0 0 = N 0 := rfl
      have e1 := d1.n1
      have e11 : ec_pl N 0 1 = N 1 := rfl
      refine fs_r_call (sta := false) (idx := 257) (as := [.inr (.ref 20), .inr (.ref 32)]) (rest := []) (L1 := [some (.inr (.ref 0)), some (.inl k), some (.inl h)]) (st1 := [.inr (.ref 32), .inr (.ref 20)]) (M1 := V) (ob := [0 < fs_N ∧ fs_kd 0 = 5, 0 < fs_N ∧ fs_kd 0 = 5]) rfl rfl rfl (fs_oc fs_ob0 (fs_oc fs_ob0 trivial)) rfl rfl (Nat.le_of_ble_eq_true rfl) ⟨Or.inr (Nat.le_of_ble_eq_true rfl), Or.inr fs_ob20⟩ (by decide) ?_
      refine fs_c_priceBy (d1.b) (d1.S) (fun (P : fs_M) (pf : ∀ r, r ≠ 26 → P r = V r) (pp : ∀ q, 0 ≤ q → q < V 20 0 → P 26 q = ec_price (mk V) q (V 33 q)) => ?_)
      refine fs_r_call (sta := false) (idx := 261) (as := [.inr (.ref 20), .inl h, .inr (.ref 32)]) (rest := []) (L1 := [some (.inr (.ref 0)), some (.inl k), some (.inl h)]) (st1 := [.inr (.ref 32), .inl h, .inr (.ref 20)]) (M1 := P) (ob := [0 < fs_N ∧ fs_kd 0 = 5, 0 < fs_N ∧ fs_kd 0 = 5]) rfl rfl rfl (fs_oc fs_ob0 (fs_oc fs_ob0 trivial)) rfl rfl (Nat.le_of_ble_eq_true rfl) ⟨Or.inr (Nat.le_of_ble_eq_true rfl), Or.inr fs_ob20⟩ (by decide) ?_
      refine fs_c_worthOf ((d1.p pf).b) ((d1.p pf).S) (by have e2 := congrFun (pf 20 (by decide)) 1; omega) (d1.pp pf pp) ?_
      refine fs_r_iret (a := (ec_worth (mk P) (sst P 32) h)) (L1 := [some (.inr (.ref 0)), some (.inl k), some (.inl h)]) (M1 := P) (ob := []) rfl rfl trivial (Or.inl rfl) ?_
      exact fs_qi (by unfold rq_worthIn; rw [if_pos (by omega)]; exact (d1.p pf).worth (by omega) (by have e2 := congrFun (pf 20 (by decide)) 1; omega)) (hq0 _ (q1.tr (cq.p pf)))
    refine fs_r_if (a := 0) (L1 := [some (.inr (.ref 0)), some (.inl k), some (.inl h)]) (st1 := []) (M1 := M) (ob := []) rfl rfl trivial (fun h => absurd h (by decide : ¬ (¬ (0 : Int) = 0))) (fun _ => ?_)
    refine fs_r_iret (a := (-1000000)) (L1 := [some (.inr (.ref 0)), some (.inl k), some (.inl h)]) (M1 := M) (ob := []) rfl rfl trivial (Or.inl rfl) ?_
    exact fs_qi (by unfold rq_worthIn; rw [if_neg (by omega)]) (hq0 _ cq.rf)
  refine fs_r_if (a := 0) (L1 := [some (.inr (.ref 0)), some (.inl k), some (.inl h)]) (st1 := []) (M1 := M) (ob := []) rfl rfl trivial (fun _ => ?_) (fun h => absurd (by decide : (0 : Int) = 0) h)
  refine fs_r_iret (a := (-1000000)) (L1 := [some (.inr (.ref 0)), some (.inl k), some (.inl h)]) (M1 := M) (ob := []) rfl rfl trivial (Or.inl rfl) ?_
  exact fs_qi (by unfold rq_worthIn; rw [if_neg (by omega)]) (hq0 _ cq.rf)

theorem fs_c_domino {d : Nat} {M : fs_M} {Q : Option fs_V → fs_M → Prop} {h : Int} {x : Int} {N : Int → Int} (hV : vw 5 M N) (hN : fs_NI N) (hq0 : ∀ (M2 : fs_M), (cq M M2) → Q (some (.inl (rq_domino N h x))) M2) : fs_W (d + 6) 121 0 [some (.inr (.ref 0)), some (.inl h), some (.inl x)] [] M Q := by
  obtain ⟨v0, v1, vcv, vfc, vhd, vln, vlc, vit⟩ := vw5 hV
  obtain ⟨⟨hA0, hA1⟩, ⟨hH0, hH1⟩, hcv, hfc, hhd, hln, hsh, hit, hst⟩ := id hN
  refine fs_r_call (sta := false) (idx := 117) (as := [.inr (.ref 5), .inl h]) (rest := []) (L1 := [some (.inr (.ref 0)), some (.inl h), some (.inl x)]) (st1 := [.inl h, .inr (.ref 5)]) (M1 := M) (ob := [0 < fs_N ∧ fs_kd 0 = 5]) rfl rfl rfl (fs_oc fs_ob0 trivial) rfl rfl (Nat.le_of_ble_eq_true rfl) ⟨Or.inr (Nat.le_of_ble_eq_true rfl), Or.inr fs_ob5⟩ (by decide) ?_
  refine fs_c_isHouse (fun (f1 : 0 ≤ h ∧ h < M 5 1) => ?_) (fun (f2 : ¬ (0 ≤ h ∧ h < M 5 1)) => ?_)
  · refine fs_r_if (a := 1) (L1 := [some (.inr (.ref 0)), some (.inl h), some (.inl x)]) (st1 := []) (M1 := M) (ob := []) rfl rfl trivial (fun h => absurd h (by decide : ¬ ((1 : Int) = 0))) (fun _ => ?_)
    refine fs_r_call (sta := false) (idx := 246) (as := [.inr (.ref 0), .inl x]) (rest := []) (L1 := [some (.inr (.ref 0)), some (.inl h), some (.inl x)]) (st1 := [.inl x, .inr (.ref 0)]) (M1 := M) (ob := []) rfl rfl rfl trivial rfl rfl (Nat.le_of_ble_eq_true rfl) ⟨Or.inr (Nat.le_of_ble_eq_true rfl), Or.inr fs_ob0⟩ (by decide) ?_
    refine fs_c_isTold (fun (f3 : (0 ≤ x ∧ x < M 5 0) ∨ (4 ≤ x ∧ x ≤ 7)) => ?_) (fun (f4 : ¬ ((0 ≤ x ∧ x < M 5 0) ∨ (4 ≤ x ∧ x ≤ 7))) => ?_)
    · refine fs_r_if (a := 1) (L1 := [some (.inr (.ref 0)), some (.inl h), some (.inl x)]) (st1 := []) (M1 := M) (ob := []) rfl rfl trivial (fun _ => ?_) (fun h => absurd (by decide : ¬ (1 : Int) = 0) h)
      refine fs_r_call (sta := false) (idx := 353) (as := [.inr (.ref 0), .inl h]) (rest := []) (L1 := [some (.inr (.ref 0)), some (.inl h), some (.inl x)]) (st1 := [.inl h, .inr (.ref 0)]) (M1 := M) (ob := []) rfl rfl rfl trivial rfl rfl (Nat.le_of_ble_eq_true rfl) ⟨Or.inr (Nat.le_of_ble_eq_true rfl), Or.inr fs_ob0⟩ (by decide) ?_
      refine fs_c_findLeastWith (N := N) (by assumption) (by assumption) (by omega) (fun (V : fs_M) (q1 : cq M V) (d1 : fdE V (ec_fo N (fs_shl 1 h)) (ec_lst (ec_fo N (fs_shl 1 h)))) => ?_)
      refine fs_r_call (sta := false) (idx := 249) (as := [.inr (.ref 20), .inr (.ref 32), .inl x]) (rest := []) (L1 := [some (.inr (.ref 0)), some (.inl h), some (.inl x)]) (st1 := [.inl x, .inr (.ref 32), .inr (.ref 20)]) (M1 := V) (ob := [0 < fs_N ∧ fs_kd 0 = 5, 0 < fs_N ∧ fs_kd 0 = 5]) rfl rfl rfl (fs_oc fs_ob0 (fs_oc fs_ob0 trivial)) rfl rfl (Nat.le_of_ble_eq_true rfl) ⟨Or.inr (Nat.le_of_ble_eq_true rfl), Or.inr fs_ob20⟩ (by decide) ?_
      refine fs_c_tell (d1.b) (d1.S) (by have e := d1.n0; have e2 : ec_fo N (fs_shl 1 h) 0 0 = N 0 := rfl; omega) ?_
      refine fs_r_iret (a := (ec_tell (mk V) (sst V 32) x)) (L1 := [some (.inr (.ref 0)), some (.inl h), some (.inl x)]) (M1 := V) (ob := []) rfl rfl trivial (Or.inl rfl) ?_
      exact fs_qi (by unfold rq_domino; rw [if_pos (by omega), d1.tell]) (hq0 _ q1)
    refine fs_r_if (a := 0) (L1 := [some (.inr (.ref 0)), some (.inl h), some (.inl x)]) (st1 := []) (M1 := M) (ob := []) rfl rfl trivial (fun h => absurd h (by decide : ¬ (¬ (0 : Int) = 0))) (fun _ => ?_)
    refine fs_r_iret (a := (-1)) (L1 := [some (.inr (.ref 0)), some (.inl h), some (.inl x)]) (M1 := M) (ob := []) rfl rfl trivial (Or.inl rfl) ?_
    exact fs_qi (by unfold rq_domino; rw [if_neg (by omega)]) (hq0 _ cq.rf)
  refine fs_r_if (a := 0) (L1 := [some (.inr (.ref 0)), some (.inl h), some (.inl x)]) (st1 := []) (M1 := M) (ob := []) rfl rfl trivial (fun _ => ?_) (fun h => absurd (by decide : (0 : Int) = 0) h)
  refine fs_r_iret (a := (-1)) (L1 := [some (.inr (.ref 0)), some (.inl h), some (.inl x)]) (M1 := M) (ob := []) rfl rfl trivial (Or.inl rfl) ?_
  exact fs_qi (by unfold rq_domino; rw [if_neg (by omega)]) (hq0 _ cq.rf)

theorem fdE.fa {M : fs_M} {E : Nat → Int → Int} {S : Int → Int} (h : fdE M E S) : M 32 1 = S 4 := by rw [← h.2.2.1, sst_4]
theorem fo0 {N : Int → Int} (hN : fs_NI N) : ec_eq (ec_fo N 0) (ec_pl N) := by
  have hA := hN.1
  have k0 : ec_fo N 0 0 0 = N 0 := rfl
  have k1 : ec_fo N 0 0 1 = N 1 := rfl
  refine ⟨rfl, rfl, rfl, fun a a0 a1 => ⟨?_, rfl, ?_, ?_, rfl⟩, fun h h0 h1 => ⟨rfl, rfl, rfl, rfl, rfl⟩, fun h a h0 h1 a0 a1 => rfl, fun o h o0 o1 h0 h1 => rfl⟩
  · show N (2 + a) * 100 / 100 - (mm_shock N a + (if a = -1 then 0 else 0)) = N (2 + a) - mm_shock N a
    rw [if_neg (by omega)]
    omega
  · show (if a = -1 ∧ 360 < mm_cap N a then 360 else mm_cap N a) = mm_cap N a
    rw [if_neg (by omega)]
  · show (if a = -1 then (0 : Int) else 0) = 0
    rw [if_neg (by omega)]
theorem fo0_lst {N : Int → Int} (hN : fs_NI N) : ec_lst (ec_fo N 0) = ec_lst (ec_pl N) := by
  have h := (fo0 hN).bd (pl_bd hN)
  exact (fo0 hN).lst h.2.1.1 (ec_okc h)
theorem fs_c_pulls {d : Nat} {M : fs_M} {Q : Option fs_V → fs_M → Prop} {h : Int} {N : Int → Int} (hV : vw 5 M N) (hN : fs_NI N) (hq0 : ∀ (M2 : fs_M), (cq M M2) → Q (some (.inl (rq_pulls N h))) M2) : fs_W (d + 6) 123 0 [some (.inr (.ref 0)), some (.inl h), none] [] M Q := by
  obtain ⟨v0, v1, vcv, vfc, vhd, vln, vlc, vit⟩ := vw5 hV
  obtain ⟨⟨hA0, hA1⟩, ⟨hH0, hH1⟩, hcv, hfc, hhd, hln, hsh, hit, hst⟩ := id hN
  refine fs_r_call (sta := false) (idx := 117) (as := [.inr (.ref 5), .inl h]) (rest := []) (L1 := [some (.inr (.ref 0)), some (.inl h), none]) (st1 := [.inl h, .inr (.ref 5)]) (M1 := M) (ob := [0 < fs_N ∧ fs_kd 0 = 5]) rfl rfl rfl (fs_oc fs_ob0 trivial) rfl rfl (Nat.le_of_ble_eq_true rfl) ⟨Or.inr (Nat.le_of_ble_eq_true rfl), Or.inr fs_ob5⟩ (by decide) ?_
  refine fs_c_isHouse (fun (f1 : 0 ≤ h ∧ h < M 5 1) => ?_) (fun (f2 : ¬ (0 ≤ h ∧ h < M 5 1)) => ?_)
  · refine fs_r_if (a := 1) (L1 := [some (.inr (.ref 0)), some (.inl h), none]) (st1 := []) (M1 := M) (ob := []) rfl rfl trivial (fun _ => ?_) (fun h => absurd (by decide : ¬ (1 : Int) = 0) h)
    refine fs_r_call (sta := false) (idx := 181) (as := [.inr (.ref 0), .inl 1]) (rest := []) (L1 := [some (.inr (.ref 0)), some (.inl h), none]) (st1 := [.inl 1, .inr (.ref 0)]) (M1 := M) (ob := []) rfl rfl rfl trivial rfl rfl (Nat.le_of_ble_eq_true rfl) ⟨Or.inr (Nat.le_of_ble_eq_true rfl), Or.inr fs_ob0⟩ (by decide) ?_
    refine fs_c_find (N := N) (by assumption) (by assumption) (by omega) (fun (x : Int) (V : fs_M) (q1 : cq M V) (d1 : fdE V (ec_pl N) (ec_std (ec_pl N) 1)) (k1 : (1 = 1 → x = (ec_k (ec_pl N) (ec_calm (ec_pl N)) : Nat)) ∧ (1 = 2 → x = (ec_k (ec_pl N) (ec_panic (ec_pl N)) : Nat))) => ?_)
    refine fs_r_call (sta := false) (idx := 353) (as := [.inr (.ref 0), .inl h]) (rest := []) (L1 := [some (.inr (.ref 0)), some (.inl h), some (.inl (V 32 1))]) (st1 := [.inl h, .inr (.ref 0)]) (M1 := V) (ob := [0 < fs_N ∧ fs_kd 0 = 5, 32 < fs_N ∧ fs_kd 32 = 3, 2 < 3]) rfl rfl rfl (fs_oc fs_ob0 (fs_oc fs_ob32 (fs_oc (by decide) trivial))) rfl rfl (Nat.le_of_ble_eq_true rfl) ⟨Or.inr (Nat.le_of_ble_eq_true rfl), Or.inr fs_ob0⟩ (by decide) ?_
    refine fs_c_findLeastWith (N := N) (q1.vw hV) (by assumption) (by omega) (fun (W : fs_M) (q2 : cq V W) (d2 : fdE W (ec_fo N (fs_shl 1 h)) (ec_lst (ec_fo N (fs_shl 1 h)))) => ?_)
    refine fs_r_iret (a := (fs_and (fs_and (W 32 1) (fs_xor (V 32 1) (-1))) (fs_xor (fs_shl 1 h) (-1)))) (L1 := [some (.inr (.ref 0)), some (.inl h), some (.inl (V 32 1))]) (M1 := W) (ob := [0 < fs_N ∧ fs_kd 0 = 5, 32 < fs_N ∧ fs_kd 32 = 3]) rfl (fs_exA 6 (o1 := [0 < fs_N ∧ fs_kd 0 = 5, 32 < fs_N ∧ fs_kd 32 = 3]) (L1 := [some (.inr (.ref 0)), some (.inl h), some (.inl (V 32 1))]) (st1 := [.inl (fs_xor (V 32 1) (-1)), .inl (W 32 1)]) (M1 := W) (o2 := []) rfl rfl) (fs_oc fs_ob0 (fs_oc fs_ob32 trivial)) (Or.inl rfl) ?_
    exact fs_qi (by unfold rq_pulls; rw [if_pos (by omega), d2.fa, d1.fa, fo0_lst hN]; rfl) (hq0 _ (q1.tr q2))
  refine fs_r_if (a := 0) (L1 := [some (.inr (.ref 0)), some (.inl h), none]) (st1 := []) (M1 := M) (ob := []) rfl rfl trivial (fun h => absurd h (by decide : ¬ (¬ (0 : Int) = 0))) (fun _ => ?_)
  refine fs_r_iret (a := (-1)) (L1 := [some (.inr (.ref 0)), some (.inl h), none]) (M1 := M) (ob := []) rfl rfl trivial (Or.inl rfl) ?_
  exact fs_qi (by unfold rq_pulls; rw [if_neg (by omega)]) (hq0 _ cq.rf)

theorem fs_c_doubtful {d : Nat} {M : fs_M} {Q : Option fs_V → fs_M → Prop}  {N : Int → Int} (hV : vw 5 M N) (hN : fs_NI N) (hq0 : ∀ (M2 : fs_M), (cq M M2) → Q (some (.inl (rq_doubtful N))) M2) : fs_W (d + 6) 127 0 [some (.inr (.ref 0)), none] [] M Q := by
  obtain ⟨v0, v1, vcv, vfc, vhd, vln, vlc, vit⟩ := vw5 hV
  obtain ⟨⟨hA0, hA1⟩, ⟨hH0, hH1⟩, hcv, hfc, hhd, hln, hsh, hit, hst⟩ := id hN
  refine fs_r_call (sta := false) (idx := 181) (as := [.inr (.ref 0), .inl 1]) (rest := []) (L1 := [some (.inr (.ref 0)), none]) (st1 := [.inl 1, .inr (.ref 0)]) (M1 := M) (ob := []) rfl rfl rfl trivial rfl rfl (Nat.le_of_ble_eq_true rfl) ⟨Or.inr (Nat.le_of_ble_eq_true rfl), Or.inr fs_ob0⟩ (by decide) ?_
  refine fs_c_find (N := N) (by assumption) (by assumption) (by omega) (fun (x : Int) (V : fs_M) (q1 : cq M V) (d1 : fdE V (ec_pl N) (ec_std (ec_pl N) 1)) (k1 : (1 = 1 → x = (ec_k (ec_pl N) (ec_calm (ec_pl N)) : Nat)) ∧ (1 = 2 → x = (ec_k (ec_pl N) (ec_panic (ec_pl N)) : Nat))) => ?_)
  refine fs_r_call (sta := false) (idx := 181) (as := [.inr (.ref 0), .inl 2]) (rest := []) (L1 := [some (.inr (.ref 0)), some (.inl (V 32 1))]) (st1 := [.inl 2, .inr (.ref 0)]) (M1 := V) (ob := [0 < fs_N ∧ fs_kd 0 = 5, 32 < fs_N ∧ fs_kd 32 = 3, 1 < 2]) rfl rfl rfl (fs_oc fs_ob0 (fs_oc fs_ob32 (fs_oc (by decide) trivial))) rfl rfl (Nat.le_of_ble_eq_true rfl) ⟨Or.inr (Nat.le_of_ble_eq_true rfl), Or.inr fs_ob0⟩ (by decide) ?_
  refine fs_c_find (N := N) (q1.vw hV) (by assumption) (by omega) (fun (x2 : Int) (W : fs_M) (q2 : cq V W) (d2 : fdE W (ec_pl N) (ec_std (ec_pl N) 2)) (k2 : (2 = 1 → x2 = (ec_k (ec_pl N) (ec_calm (ec_pl N)) : Nat)) ∧ (2 = 2 → x2 = (ec_k (ec_pl N) (ec_panic (ec_pl N)) : Nat))) => ?_)
  refine fs_r_iret (a := (fs_and (W 32 1) (fs_xor (V 32 1) (-1)))) (L1 := [some (.inr (.ref 0)), some (.inl (V 32 1))]) (M1 := W) (ob := [0 < fs_N ∧ fs_kd 0 = 5, 32 < fs_N ∧ fs_kd 32 = 3]) rfl (fs_exA 6 (o1 := [0 < fs_N ∧ fs_kd 0 = 5, 32 < fs_N ∧ fs_kd 32 = 3]) (L1 := [some (.inr (.ref 0)), some (.inl (V 32 1))]) (st1 := [.inl (-1), .inl (V 32 1), .inl (W 32 1)]) (M1 := W) (o2 := []) rfl rfl) (fs_oc fs_ob0 (fs_oc fs_ob32 trivial)) (Or.inl rfl) ?_
  exact fs_qi (by unfold rq_doubtful; rw [d2.fa, d1.fa, fo0_lst hN]; rfl) (hq0 _ (q1.tr q2))

theorem kk_m_s {N : Int → Int} {h : Int} (h0 : 0 ≤ h) : kk_m N (h + 1).toNat = (if kk_m N h.toNat < kk_c N h then kk_c N h else kk_m N h.toNat) ∧ kk_b N (h + 1).toNat = (if kk_m N h.toNat < kk_c N h then h else kk_b N h.toNat) := by
  obtain ⟨n, rfl⟩ := Int.eq_ofNat_of_zero_le h0
  exact ⟨rfl, rfl⟩
theorem fs_c_keystone {d : Nat} {M : fs_M} {Q : Option fs_V → fs_M → Prop}  {N : Int → Int} (hV : vw 5 M N) (hN : fs_NI N) (hq0 : ∀ (M2 : fs_M), (cq M M2) → Q (some (.inl (rq_keystone N))) M2) : fs_W (d + 6) 122 0 [some (.inr (.ref 0)), none, none, none, none] [] M Q := by
  obtain ⟨v0, v1, vcv, vfc, vhd, vln, vlc, vit⟩ := vw5 hV
  obtain ⟨⟨hA0, hA1⟩, ⟨hH0, hH1⟩, hcv, hfc, hhd, hln, hsh, hit, hst⟩ := id hN
  refine fs_r_nop (L1 := [some (.inr (.ref 0)), some (.inl (-2)), some (.inl 0), some (.inl 0), none]) (st1 := []) (M1 := M) (ob := [1 < 5, 2 < 5, 3 < 5]) rfl rfl (fs_oc (by decide) (fs_oc (by decide) (fs_oc (by decide) trivial))) ?_
  have loop7 : ∀ (n7 : Nat) (b : Int) (m : Int) (h : Int) (zl4 : Option fs_V) (M3 : fs_M), (0 ≤ h ∧ h ≤ N 1) → (cq M M3) → (b = kk_b N h.toNat) → (m = kk_m N h.toNat) → N 1 - h < (n7 : Int) → fs_W (d + 6) 122 7 [some (.inr (.ref 0)), some (.inl b), some (.inl m), some (.inl h), zl4] [] M3 Q := by
    intro n7
    induction n7 with
    | zero =>
      intro b m h zl4 M3 i0 q3 b0 m0 hm7
      exfalso
      omega
    | succ n7 ih7 =>
      intro b m h zl4 M3 i0 q3 b0 m0 hm7
      have n3 := congrFun (q3 5 (by decide)) 1
      refine fs_r_icmp (a := h) (y := (M3 5 1)) (L1 := [some (.inr (.ref 0)), some (.inl b), some (.inl m), some (.inl h), zl4]) (st1 := []) (M1 := M3) (ob := [0 < fs_N ∧ fs_kd 0 = 5, 5 < fs_N ∧ fs_kd 5 = 0]) rfl rfl (fs_oc fs_ob0 (fs_oc fs_ob5 trivial)) (fun (h1 : (M3 5 1) ≤ h) => ?_) (fun (h1 : ¬ ((M3 5 1) ≤ h)) => ?_)
      · refine fs_r_iret (a := b) (L1 := [some (.inr (.ref 0)), some (.inl b), some (.inl m), some (.inl h), zl4]) (M1 := M3) (ob := []) rfl rfl trivial (Or.inl rfl) ?_
        exact fs_qi (by rw [b0, show h = N 1 by omega]; rfl) (hq0 _ q3)
      refine fs_r_call (sta := false) (idx := 353) (as := [.inr (.ref 0), .inl h]) (rest := []) (L1 := [some (.inr (.ref 0)), some (.inl b), some (.inl m), some (.inl h), zl4]) (st1 := [.inl h, .inr (.ref 0)]) (M1 := M3) (ob := []) rfl rfl rfl trivial rfl rfl (Nat.le_of_ble_eq_true rfl) ⟨Or.inr (Nat.le_of_ble_eq_true rfl), Or.inr fs_ob0⟩ (by decide) ?_
      refine fs_c_findLeastWith (N := N) (q3.vw hV) (by assumption) (by omega) (fun (V : fs_M) (q1 : cq M3 V) (d1 : fdE V (ec_fo N (fs_shl 1 h)) (ec_lst (ec_fo N (fs_shl 1 h)))) => ?_)
      have s4 := d1.S.1
      refine fs_r_call (sta := true) (idx := 356) (as := [.inl (V 32 1)]) (rest := []) (L1 := [some (.inr (.ref 0)), some (.inl b), some (.inl m), some (.inl h), zl4]) (st1 := [.inl (V 32 1)]) (M1 := V) (ob := [0 < fs_N ∧ fs_kd 0 = 5, 32 < fs_N ∧ fs_kd 32 = 3]) rfl rfl rfl (fs_oc fs_ob0 (fs_oc fs_ob32 trivial)) rfl rfl (Nat.le_of_ble_eq_true rfl) ⟨Or.inr (Nat.le_of_ble_eq_true rfl), trivial⟩ (by decide) ?_
      refine fs_c_bitCount (s4) ?_
      have kc : fs_pop (V 32 1) = kk_c N h := by rw [d1.fa]; rfl
      have ks := kk_m_s (N := N) (h := h) i0.1
      refine fs_r_icmp (a := (fs_pop (V 32 1))) (y := m) (L1 := [some (.inr (.ref 0)), some (.inl b), some (.inl m), some (.inl h), some (.inl (fs_pop (V 32 1)))]) (st1 := []) (M1 := V) (ob := [4 < 5]) rfl rfl (fs_oc (by decide) trivial) (fun (h2 : (fs_pop (V 32 1)) ≤ m) => ?_) (fun (h2 : ¬ ((fs_pop (V 32 1)) ≤ m)) => ?_)
      · refine fs_r_goto (L1 := [some (.inr (.ref 0)), some (.inl b), some (.inl m), some (.inl (h + 1)), some (.inl (fs_pop (V 32 1)))]) (st1 := []) (M1 := V) (ob := [fs_rg (h + 1)]) rfl rfl (fs_oc ⟨by omega, by omega⟩ trivial) ?_
        exact ih7 (b) (m) ((h + 1)) (some (.inl (fs_pop (V 32 1)))) V (by omega) (q3.tr q1) (by rw [ks.2, ← m0]; first | (rw [if_pos (by omega)]; done) | (rw [if_neg (by omega)]; exact b0)) (by rw [ks.1, ← m0]; first | (rw [if_pos (by omega), kc]; done) | (rw [if_neg (by omega)])) (by omega)
      refine fs_r_nop (L1 := [some (.inr (.ref 0)), some (.inl h), some (.inl (fs_pop (V 32 1))), some (.inl h), some (.inl (fs_pop (V 32 1)))]) (st1 := []) (M1 := V) (ob := [2 < 5, 1 < 5]) rfl rfl (fs_oc (by decide) (fs_oc (by decide) trivial)) ?_
      refine fs_r_goto (L1 := [some (.inr (.ref 0)), some (.inl h), some (.inl (fs_pop (V 32 1))), some (.inl (h + 1)), some (.inl (fs_pop (V 32 1)))]) (st1 := []) (M1 := V) (ob := [fs_rg (h + 1)]) rfl rfl (fs_oc ⟨by omega, by omega⟩ trivial) ?_
      exact ih7 (h) ((fs_pop (V 32 1))) ((h + 1)) (some (.inl (fs_pop (V 32 1)))) V (by omega) (q3.tr q1) (by rw [ks.2, ← m0]; first | (rw [if_pos (by omega)]; done) | (rw [if_neg (by omega)]; exact b0)) (by rw [ks.1, ← m0]; first | (rw [if_pos (by omega), kc]; done) | (rw [if_neg (by omega)])) (by omega)
  exact loop7 (((N 1 - (0)) : Int) + 1).toNat ((-2)) (0) (0) (none) M (by omega) (cq.rf) (rfl) (rfl) (by omega)
