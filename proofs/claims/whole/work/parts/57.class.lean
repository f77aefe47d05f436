/-! what asking leaves as it was -/
def cq (M M2 : fs_M) : Prop := ∀ r, (r < 3 ∨ (5 ≤ r ∧ r < 20) ∨ 39 < r) → M2 r = M r
theorem cq.rf {M : fs_M} : cq M M := fun _ _ => rfl
theorem cq.tr {A B C : fs_M} (h : cq A B) (k : cq B C) : cq A C := fun r a => (k r a).trans (h r a)
theorem cq.f {M M2 : fs_M} (h : mk_f M M2) : cq M M2 := fun r a => h r (by omega) (by omega)
theorem cq.ld {M M2 : fs_M} (h : ∀ r, (r < 20 ∨ 31 < r) → M2 r = M r) : cq M M2 := fun r a => h r (by omega)
theorem cq.sc {M M2 : fs_M} (h : ∀ r, (r < 20 ∨ 39 < r) → M2 r = M r) : cq M M2 := fun r a => h r (by omega)
theorem cq.up {M M2 : fs_M} {r : Nat} {i v : Int} (h : cq M M2) (q : 20 ≤ r ∧ r ≤ 39) : cq M (fs_up M2 r i v) := fun r' a => by rw [fs_up_other (by omega)]; exact h r' a
theorem cq.vw {M M2 : fs_M} {N : Int → Int} (h : cq M M2) (k : vw 5 M N) : vw 5 M2 N := k.fr (fun r a b => h r (by omega))
/-- the Market says E, found shows S -/
def fdE (M : fs_M) (E : Nat → Int → Int) (S : Int → Int) : Prop := ec_bd E ∧ ec_eq (mk M) E ∧ sst M 32 = S ∧ sb M 32
theorem fdE.b {M : fs_M} {E : Nat → Int → Int} {S : Int → Int} (h : fdE M E S) : mk_b M := (h.2.1.bd h.1).b
theorem fdE.S {M : fs_M} {E : Nat → Int → Int} {S : Int → Int} (h : fdE M E S) : sb M 32 := h.2.2.2
theorem eq_b {M : fs_M} {E : Nat → Int → Int} (e : ec_eq (mk M) E) (hE : ec_bd E) : mk_b M := (e.bd hE).b
theorem fdE.least {V1 V2 : fs_M} {E : Nat → Int → Int} (hE : ec_bd E) (e : ec_eq (mk V1) E) (f : mk_f V1 V2) (s : sst V2 32 = ec_fix (mk V1) (ec_calm (mk V1))) (b : sb V2 32) : fdE V2 E (ec_lst E) := by
  have h := e.bd hE
  refine ⟨hE, by rw [f.E]; exact e, ?_, b⟩
  rw [s, e.fix h.2.1.1 (ec_okc h), e.calm]
  rfl
theorem pl_hd {N : Int → Int} : ec_hd (ec_pl N) := fun a _ _ => by
  have e : fs_sum (N 1).toNat (fun h => N (40 + (4 * h + a))) = fs_sum (N 1).toNat (fun h => N (40 + 4 * h + a)) := fs_sum_c (fun i _ _ => by rw [show 40 + (4 * i + a) = 40 + 4 * i + a by omega])
  exact Int.le_of_eq e
theorem fdE.great {V1 V2 : fs_M} {E : Nat → Int → Int} (hE : ec_bd E) (hd : ec_hd E) (e : ec_eq (mk V1) E) (f : mk_f V1 V2) (s : sst V2 32 = ec_fix (mk V1) (ec_panic (mk V1))) (b : sb V2 32) : fdE V2 E (ec_fix E (ec_panic E)) := by
  have h := e.bd hE
  refine ⟨hE, by rw [f.E]; exact e, ?_, b⟩
  rw [s, e.fix h.2.1.1 (ec_okp h (e.hd hd)), e.panic]
theorem f3233 {V1 V2 : fs_M} (f : ∀ r, r ≠ 32 → r ≠ 33 → V2 r = V1 r) : mk_f V1 V2 := fun r a b => f r (by omega) (by omega)
theorem fdE.calm {V1 V2 : fs_M} {E : Nat → Int → Int} (hE : ec_bd E) (e : ec_eq (mk V1) E) (f : ∀ r, r ≠ 32 → r ≠ 33 → V2 r = V1 r) (s : sst V2 32 = ec_calm (mk V1)) (b : sb V2 32) : fdE V2 E (ec_calm E) :=
  ⟨hE, by rw [(f3233 f).E]; exact e, by rw [s, e.calm], b⟩
theorem fdE.panic {V1 V2 : fs_M} {E : Nat → Int → Int} (hE : ec_bd E) (e : ec_eq (mk V1) E) (f : ∀ r, r ≠ 32 → r ≠ 33 → V2 r = V1 r) (s : sst V2 32 = ec_panic (mk V1)) (b : sb V2 32) : fdE V2 E (ec_panic E) :=
  ⟨hE, by rw [(f3233 f).E]; exact e, by rw [s, e.panic], b⟩
theorem fdE.go {V1 V2 : fs_M} {E : Nat → Int → Int} {S : Int → Int} (h : fdE V1 E S) (f : mk_f V1 V2) (s : sst V2 32 = ec_next (mk V1) (sst V1 32)) (b : sb V2 32) : fdE V2 E (ec_next E S) :=
  ⟨h.1, by rw [f.E]; exact h.2.1, by rw [s, h.2.1.next (h.2.1.bd h.1).2.1.1, h.2.2.1], b⟩
theorem fdE.tell {M : fs_M} {E : Nat → Int → Int} {S : Int → Int} (h : fdE M E S) (w : Int) : ec_tell (mk M) (sst M 32) w = ec_tell E S w := by rw [h.2.1.tell, h.2.2.1]
theorem fdE.lost {M : fs_M} {E : Nat → Int → Int} {S : Int → Int} (h : fdE M E S) : ec_lost (mk M) (sst M 32) = ec_lost E S := by rw [h.2.1.lost, h.2.2.1]
theorem fdE.worth {M : fs_M} {E : Nat → Int → Int} {S : Int → Int} {q : Int} (h : fdE M E S) (h0 : 0 ≤ q) (h1 : q < M 20 1) : ec_worth (mk M) (sst M 32) q = ec_worth E S q := by rw [h.2.1.worth h0 h1, h.2.2.1]
theorem fdE.n0 {M : fs_M} {E : Nat → Int → Int} {S : Int → Int} (h : fdE M E S) : M 20 0 = E 0 0 := h.2.1.1
theorem fdE.n1 {M : fs_M} {E : Nat → Int → Int} {S : Int → Int} (h : fdE M E S) : M 20 1 = E 0 1 := h.2.1.2.1
/-- only prices have changed -/
theorem fdE.p {M M2 : fs_M} {E : Nat → Int → Int} {S : Int → Int} (h : fdE M E S) (f : ∀ r, r ≠ 26 → M2 r = M r) : fdE M2 E S := by
  obtain ⟨h1, h2, h3, h4⟩ := h
  refine ⟨h1, ?_, ?_, ?_⟩
  · rw [mk_eq (fun r _ _ q => f r q)]
    exact h2
  · rw [← h3]
    unfold sst
    rw [f 32 (by decide), f (32 + 1) (by decide)]
  · unfold sb at *
    rw [f 32 (by decide), f (32 + 1) (by decide)]
    exact h4
theorem fdE.pp {M M2 : fs_M} {E : Nat → Int → Int} {S : Int → Int} (h : fdE M E S) (f : ∀ r, r ≠ 26 → M2 r = M r) (p : ∀ q, 0 ≤ q → q < M 20 0 → M2 26 q = ec_price (mk M) q (M 33 q)) : ∀ q, 0 ≤ q → q < M2 20 0 → M2 26 q = ec_price (mk M2) q (M2 33 q) := by
  intro q q0 q1
  rw [f 20 (by decide)] at q1
  rw [p q q0 q1, f 33 (by decide), mk_eq (fun r _ _ q => f r q)]
theorem cq.p {M M2 : fs_M} (f : ∀ r, r ≠ 26 → M2 r = M r) : cq M M2 := fun r a => f r (by omega)
theorem fs_shl_lt {h : Int} (h0 : 0 ≤ h) (h1 : h < 6) : 1 ≤ fs_shl 1 h ∧ fs_shl 1 h < 64 := by
  have key : ∀ h : Fin 6, 1 ≤ fs_shl 1 (h.val : Int) ∧ fs_shl 1 (h.val : Int) < 64 := by decide +kernel
  have := key ⟨h.toNat, by omega⟩
  simp only [Int.toNat_of_nonneg h0] at this
  exact this
theorem ec_it_const {E : Nat → Int → Int} {S : Int → Int} {j : Nat} (h : ec_it E S (j + 1) = ec_it E S j) : ∀ n : Nat, ec_it E S (j + n) = ec_it E S j
  | 0 => rfl
  | n + 1 => by
    have ih := ec_it_const h n
    show ec_next E (ec_it E S (j + n)) = _
    rw [ih]
    exact h
theorem fs_c_find {d : Nat} {M : fs_M} {Q : Option fs_V → fs_M → Prop} {w : Int} {N : Int → Int} (hV : vw 5 M N) (hN : fs_NI N) (hw : 0 ≤ w ∧ w ≤ 3) (hq0 : ∀ (x : Int) (M2 : fs_M), (cq M M2) → (fdE M2 (ec_pl N) (ec_std (ec_pl N) w)) → ((w = 1 → x = (ec_k (ec_pl N) (ec_calm (ec_pl N)) : Nat)) ∧ (w = 2 → x = (ec_k (ec_pl N) (ec_panic (ec_pl N)) : Nat))) → Q (some (.inl x)) M2) : fs_W (d + 5) 142 0 [some (.inr (.ref 0)), some (.inl w)] [] M Q := by
  refine fs_r_call (sta := false) (idx := 322) (as := [.inr (.ref 20), .inr (.ref 5)]) (rest := []) (L1 := [some (.inr (.ref 0)), some (.inl w)]) (st1 := [.inr (.ref 5), .inr (.ref 20)]) (M1 := M) (ob := [0 < fs_N ∧ fs_kd 0 = 5, 0 < fs_N ∧ fs_kd 0 = 5]) rfl rfl rfl (fs_oc fs_ob0 (fs_oc fs_ob0 trivial)) rfl rfl (Nat.le_of_ble_eq_true rfl) ⟨Or.inr (Nat.le_of_ble_eq_true rfl), Or.inr fs_ob20⟩ (by decide) ?_
  refine fs_c_load (N := N) (by assumption) (by assumption) (fun (V1 : fs_M) (l1 : ∀ r, (r < 20 ∨ 31 < r) → V1 r = M r) (l2 : ec_eq (mk V1) (ec_pl N)) (l3 : ∀ q, 0 ≤ q → q < 4 → V1 25 q = if q < N 0 then mm_held N q else 0) => ?_)
  refine fs_r_sw (a := w) (L1 := [some (.inr (.ref 0)), some (.inl w)]) (st1 := []) (M1 := V1) (ob := []) rfl rfl trivial ?_
  by_cases h1 : w = 1
  · have eh1 : ((12 : Nat) + fs_sw 73 1 3 #[28, 44, 60] w : Int).toNat = 40 := by rw [h1]; decide
    rw [eh1]
    refine fs_r_call (sta := false) (idx := 346) (as := [.inr (.ref 20), .inr (.ref 32), .inr (.ref 34)]) (rest := []) (L1 := [some (.inr (.ref 0)), some (.inl w)]) (st1 := [.inr (.ref 34), .inr (.ref 32), .inr (.ref 20)]) (M1 := V1) (ob := [0 < fs_N ∧ fs_kd 0 = 5, 0 < fs_N ∧ fs_kd 0 = 5, 0 < fs_N ∧ fs_kd 0 = 5]) rfl rfl rfl (fs_oc fs_ob0 (fs_oc fs_ob0 (fs_oc fs_ob0 trivial))) rfl rfl (Nat.le_of_ble_eq_true rfl) ⟨Or.inr (Nat.le_of_ble_eq_true rfl), Or.inr fs_ob20⟩ (by decide) ?_
    refine fs_c_toLeast (eq_b l2 (pl_bd hN)) (fun (V2 : fs_M) (t1 : mk_f V1 V2) (t2 : sst V2 32 = ec_fix (mk V1) (ec_calm (mk V1))) (t3 : sb V2 32) => ?_)
    refine fs_r_iret (a := ((ec_k (mk V1) (ec_calm (mk V1)) : Nat) : Int)) (L1 := [some (.inr (.ref 0)), some (.inl w)]) (M1 := V2) (ob := []) rfl rfl trivial (Or.inl rfl) ?_
    have e : w = 1 := by first | assumption | omega
    have es : ec_std (ec_pl N) w = ec_lst (ec_pl N) := by rw [e]; rfl
    exact hq0 _ _ ((cq.ld l1).tr (cq.f t1)) (by rw [es]; exact fdE.least (pl_bd hN) l2 t1 t2 t3) ⟨fun _ => by rw [l2.k (l2.bd (pl_bd hN)).2.1.1 (ec_okc (l2.bd (pl_bd hN))), l2.calm], fun z => by omega⟩
  by_cases h2 : w = 2
  · have eh2 : ((12 : Nat) + fs_sw 73 1 3 #[28, 44, 60] w : Int).toNat = 56 := by rw [h2]; decide
    rw [eh2]
    refine fs_r_call (sta := false) (idx := 388) (as := [.inr (.ref 20), .inr (.ref 32), .inr (.ref 34)]) (rest := []) (L1 := [some (.inr (.ref 0)), some (.inl w)]) (st1 := [.inr (.ref 34), .inr (.ref 32), .inr (.ref 20)]) (M1 := V1) (ob := [0 < fs_N ∧ fs_kd 0 = 5, 0 < fs_N ∧ fs_kd 0 = 5, 0 < fs_N ∧ fs_kd 0 = 5]) rfl rfl rfl (fs_oc fs_ob0 (fs_oc fs_ob0 (fs_oc fs_ob0 trivial))) rfl rfl (Nat.le_of_ble_eq_true rfl) ⟨Or.inr (Nat.le_of_ble_eq_true rfl), Or.inr fs_ob20⟩ (by decide) ?_
    refine fs_c_toGreatest (eq_b l2 (pl_bd hN)) (l2.hd pl_hd) (fun (V2 : fs_M) (t1 : mk_f V1 V2) (t2 : sst V2 32 = ec_fix (mk V1) (ec_panic (mk V1))) (t3 : sb V2 32) => ?_)
    refine fs_r_iret (a := ((ec_k (mk V1) (ec_panic (mk V1)) : Nat) : Int)) (L1 := [some (.inr (.ref 0)), some (.inl w)]) (M1 := V2) (ob := []) rfl rfl trivial (Or.inl rfl) ?_
    have e : w = 2 := by first | assumption | omega
    have es : ec_std (ec_pl N) w = ec_fix (ec_pl N) (ec_panic (ec_pl N)) := by rw [e]; rfl
    exact hq0 _ _ ((cq.ld l1).tr (cq.f t1)) (by rw [es]; exact fdE.great (pl_bd hN) pl_hd l2 t1 t2 t3) ⟨fun z => by omega, fun _ => by rw [l2.k (l2.bd (pl_bd hN)).2.1.1 (ec_okp (l2.bd (pl_bd hN)) (l2.hd pl_hd)), l2.panic]⟩
  by_cases h3 : w = 3
  · have eh3 : ((12 : Nat) + fs_sw 73 1 3 #[28, 44, 60] w : Int).toNat = 72 := by rw [h3]; decide
    rw [eh3]
    refine fs_r_call (sta := false) (idx := 391) (as := [.inr (.ref 20), .inr (.ref 32)]) (rest := []) (L1 := [some (.inr (.ref 0)), some (.inl w)]) (st1 := [.inr (.ref 32), .inr (.ref 20)]) (M1 := V1) (ob := [0 < fs_N ∧ fs_kd 0 = 5, 0 < fs_N ∧ fs_kd 0 = 5]) rfl rfl rfl (fs_oc fs_ob0 (fs_oc fs_ob0 trivial)) rfl rfl (Nat.le_of_ble_eq_true rfl) ⟨Or.inr (Nat.le_of_ble_eq_true rfl), Or.inr fs_ob20⟩ (by decide) ?_
    refine fs_c_panic (eq_b l2 (pl_bd hN)) (fun (V2 : fs_M) (t1 : ∀ r, r ≠ 32 → r ≠ 33 → V2 r = V1 r) (t2 : sst V2 32 = ec_panic (mk V1)) (t3 : sb V2 32) => ?_)
    refine fs_r_iret (a := 0) (L1 := [some (.inr (.ref 0)), some (.inl w)]) (M1 := V2) (ob := []) rfl rfl trivial (Or.inl rfl) ?_
    have e : w = 3 := by first | assumption | omega
    have es : ec_std (ec_pl N) w = ec_panic (ec_pl N) := by rw [e]; rfl
    exact hq0 _ _ ((cq.ld l1).tr (cq.f (f3233 t1))) (by rw [es]; exact fdE.panic (pl_bd hN) l2 t1 t2 t3) ⟨fun z => by omega, fun z => by omega⟩
  have h4 : ((12 : Nat) + fs_sw 73 1 3 #[28, 44, 60] w : Int).toNat = 85 := by unfold fs_sw; rw [if_pos (by omega)]; rfl
  rw [h4]
  refine fs_r_call (sta := false) (idx := 394) (as := [.inr (.ref 20), .inr (.ref 32)]) (rest := []) (L1 := [some (.inr (.ref 0)), some (.inl w)]) (st1 := [.inr (.ref 32), .inr (.ref 20)]) (M1 := V1) (ob := [0 < fs_N ∧ fs_kd 0 = 5, 0 < fs_N ∧ fs_kd 0 = 5]) rfl rfl rfl (fs_oc fs_ob0 (fs_oc fs_ob0 trivial)) rfl rfl (Nat.le_of_ble_eq_true rfl) ⟨Or.inr (Nat.le_of_ble_eq_true rfl), Or.inr fs_ob20⟩ (by decide) ?_
  refine fs_c_calm (eq_b l2 (pl_bd hN)) (fun (V2 : fs_M) (t1 : ∀ r, r ≠ 32 → r ≠ 33 → V2 r = V1 r) (t2 : sst V2 32 = ec_calm (mk V1)) (t3 : sb V2 32) => ?_)
  refine fs_r_iret (a := 0) (L1 := [some (.inr (.ref 0)), some (.inl w)]) (M1 := V2) (ob := []) rfl rfl trivial (Or.inl rfl) ?_
  have e : w = 0 := by first | assumption | omega
  have es : ec_std (ec_pl N) w = ec_calm (ec_pl N) := by rw [e]; rfl
  exact hq0 _ _ ((cq.ld l1).tr (cq.f (f3233 t1))) (by rw [es]; exact fdE.calm (pl_bd hN) l2 t1 t2 t3) ⟨fun z => by omega, fun z => by omega⟩

theorem fo_bd {N : Int → Int} {f : Int} (hN : fs_NI N) (hf : 0 ≤ f ∧ f < 64) : ec_bd (ec_fo N f) := by
  have h := pl_bd hN
  obtain ⟨h1, h2, h3, h4, h5, h6, h7⟩ := h
  refine ⟨h1, h2, hf, fun a a0 a1 => ?_, h5, h6, h7⟩
  obtain ⟨x1, x2, x3, x4, x5⟩ := h4 a a0 a1
  refine ⟨?_, x2, ?_, ?_, x5⟩
  · have e : ec_fo N f 1 a = N (2 + a) * 100 / 100 - (mm_shock N a + (if a = -1 then 0 else 0)) := rfl
    have e2 : ec_pl N 1 a = N (2 + a) - mm_shock N a := rfl
    rw [e2] at x1
    rw [e, if_neg (by omega)]
    omega
  · have e : ec_fo N f 3 a = if a = -1 ∧ 360 < mm_cap N a then 360 else mm_cap N a := rfl
    rw [e, if_neg (by omega)]
    exact x3
  · have e : ec_fo N f 4 a = if a = -1 then 0 else 0 := rfl
    rw [e]
    split <;> omega
theorem fo_eq {N : Int → Int} {f : Int} {M : fs_M} (hN : fs_NI N) (e : ec_eq (mk M) (ec_pl N)) : ec_eq (mk (fs_up M 20 2 f)) (ec_fo N f) := by
  obtain ⟨h1, h2, h3, h4, h5, h6, h7⟩ := e
  refine ⟨h1, h2, rfl, fun a a0 a1 => ?_, h5, h6, h7⟩
  obtain ⟨x1, x2, x3, x4, x5⟩ := h4 a a0 a1
  refine ⟨?_, x2, ?_, ?_, x5⟩
  · have e : ec_fo N f 1 a = N (2 + a) * 100 / 100 - (mm_shock N a + (if a = -1 then 0 else 0)) := rfl
    have e2 : ec_pl N 1 a = N (2 + a) - mm_shock N a := rfl
    rw [e2] at x1
    show M 21 a = _
    have x1 : M 21 a = _ := x1
    rw [e, if_neg (by omega), x1]
    omega
  · have e : ec_fo N f 3 a = if a = -1 ∧ 360 < mm_cap N a then 360 else mm_cap N a := rfl
    rw [e, if_neg (by omega)]
    exact x3
  · have e : ec_fo N f 4 a = if a = -1 then 0 else 0 := rfl
    rw [e, if_neg (by omega)]
    exact x4
theorem fs_c_findLeastWith {d : Nat} {M : fs_M} {Q : Option fs_V → fs_M → Prop} {h : Int} {N : Int → Int} (hV : vw 5 M N) (hN : fs_NI N) (hh : 0 ≤ h ∧ h < N 1) (hq0 : ∀ (M2 : fs_M), (cq M M2) → (fdE M2 (ec_fo N (fs_shl 1 h)) (ec_lst (ec_fo N (fs_shl 1 h)))) → Q none M2) : fs_W (d + 5) 143 0 [some (.inr (.ref 0)), some (.inl h)] [] M Q := by
  have hb := hN.2.1
  refine fs_r_call (sta := false) (idx := 322) (as := [.inr (.ref 20), .inr (.ref 5)]) (rest := []) (L1 := [some (.inr (.ref 0)), some (.inl h)]) (st1 := [.inr (.ref 5), .inr (.ref 20)]) (M1 := M) (ob := [0 < fs_N ∧ fs_kd 0 = 5, 0 < fs_N ∧ fs_kd 0 = 5]) rfl rfl rfl (fs_oc fs_ob0 (fs_oc fs_ob0 trivial)) rfl rfl (Nat.le_of_ble_eq_true rfl) ⟨Or.inr (Nat.le_of_ble_eq_true rfl), Or.inr fs_ob20⟩ (by decide) ?_
  refine fs_c_load (N := N) (by assumption) (by assumption) (fun (V1 : fs_M) (l1 : ∀ r, (r < 20 ∨ 31 < r) → V1 r = M r) (l2 : ec_eq (mk V1) (ec_pl N)) (l3 : ∀ q, 0 ≤ q → q < 4 → V1 25 q = if q < N 0 then mm_held N q else 0) => ?_)
  have sl := fs_shl_lt (h := h) hh.1 (by omega)
  have e2 := fo_eq (f := fs_shl 1 h) hN l2
  have b2 := fo_bd (f := fs_shl 1 h) hN (by omega)
  refine fs_r_call (sta := false) (idx := 346) (as := [.inr (.ref 20), .inr (.ref 32), .inr (.ref 34)]) (rest := []) (L1 := [some (.inr (.ref 0)), some (.inl h)]) (st1 := [.inr (.ref 34), .inr (.ref 32), .inr (.ref 20)]) (M1 := (fs_up V1 20 2 (fs_shl 1 h))) (ob := [0 < fs_N ∧ fs_kd 0 = 5, 20 < fs_N ∧ fs_kd 20 = 1, 0 < fs_N ∧ fs_kd 0 = 5, 0 < fs_N ∧ fs_kd 0 = 5, 0 < fs_N ∧ fs_kd 0 = 5]) rfl rfl (fs_exA 6 (o1 := [0 < fs_N ∧ fs_kd 0 = 5, 20 < fs_N ∧ fs_kd 20 = 1]) (L1 := [some (.inr (.ref 0)), some (.inl h)]) (st1 := []) (M1 := (fs_up V1 20 2 (fs_shl 1 h))) (o2 := [0 < fs_N ∧ fs_kd 0 = 5, 0 < fs_N ∧ fs_kd 0 = 5, 0 < fs_N ∧ fs_kd 0 = 5]) rfl rfl) (fs_oc fs_ob0 (fs_oc fs_ob20 (fs_oc fs_ob0 (fs_oc fs_ob0 (fs_oc fs_ob0 trivial))))) rfl rfl (Nat.le_of_ble_eq_true rfl) ⟨Or.inr (Nat.le_of_ble_eq_true rfl), Or.inr fs_ob20⟩ (by decide) ?_
  refine fs_c_toLeast (eq_b e2 b2) (fun (V2 : fs_M) (t1 : mk_f (fs_up V1 20 2 (fs_shl 1 h)) V2) (t2 : sst V2 32 = ec_fix (mk (fs_up V1 20 2 (fs_shl 1 h))) (ec_calm (mk (fs_up V1 20 2 (fs_shl 1 h))))) (t3 : sb V2 32) => ?_)
  refine fs_r_ret (L1 := [some (.inr (.ref 0)), some (.inl h)]) (M1 := V2) (ob := []) rfl rfl trivial ?_
  exact hq0 _ (((cq.ld l1).up (by decide)).tr (cq.f t1)) (fdE.least b2 e2 t1 t2 t3)

theorem fs_c_findRound {d : Nat} {M : fs_M} {Q : Option fs_V → fs_M → Prop} {k : Int} {N : Int → Int} (hV : vw 5 M N) (hN : fs_NI N) (hk : 0 ≤ k ∧ k ≤ 2000) (hq0 : ∀ (M2 : fs_M), (cq M M2) → (fdE M2 (ec_pl N) (ec_it (ec_pl N) (ec_calm (ec_pl N)) (Int.toNat k))) → (∀ r, (r < 20 ∨ 35 < r) → M2 r = M r) → Q none M2) : fs_W (d + 4) 144 0 [some (.inr (.ref 0)), some (.inl k), none] [] M Q := by
  refine fs_r_call (sta := false) (idx := 322) (as := [.inr (.ref 20), .inr (.ref 5)]) (rest := []) (L1 := [some (.inr (.ref 0)), some (.inl k), none]) (st1 := [.inr (.ref 5), .inr (.ref 20)]) (M1 := M) (ob := [0 < fs_N ∧ fs_kd 0 = 5, 0 < fs_N ∧ fs_kd 0 = 5]) rfl rfl rfl (fs_oc fs_ob0 (fs_oc fs_ob0 trivial)) rfl rfl (Nat.le_of_ble_eq_true rfl) ⟨Or.inr (Nat.le_of_ble_eq_true rfl), Or.inr fs_ob20⟩ (by decide) ?_
  refine fs_c_load (N := N) (by assumption) (by assumption) (fun (V1 : fs_M) (l1 : ∀ r, (r < 20 ∨ 31 < r) → V1 r = M r) (l2 : ec_eq (mk V1) (ec_pl N)) (l3 : ∀ q, 0 ≤ q → q < 4 → V1 25 q = if q < N 0 then mm_held N q else 0) => ?_)
  refine fs_r_call (sta := false) (idx := 394) (as := [.inr (.ref 20), .inr (.ref 32)]) (rest := []) (L1 := [some (.inr (.ref 0)), some (.inl k), none]) (st1 := [.inr (.ref 32), .inr (.ref 20)]) (M1 := V1) (ob := [0 < fs_N ∧ fs_kd 0 = 5, 0 < fs_N ∧ fs_kd 0 = 5]) rfl rfl rfl (fs_oc fs_ob0 (fs_oc fs_ob0 trivial)) rfl rfl (Nat.le_of_ble_eq_true rfl) ⟨Or.inr (Nat.le_of_ble_eq_true rfl), Or.inr fs_ob20⟩ (by decide) ?_
  refine fs_c_calm (eq_b l2 (pl_bd hN)) (fun (V2 : fs_M) (t1 : ∀ r, r ≠ 32 → r ≠ 33 → V2 r = V1 r) (t2 : sst V2 32 = ec_calm (mk V1)) (t3 : sb V2 32) => ?_)
  refine fs_r_nop (L1 := [some (.inr (.ref 0)), some (.inl k), some (.inl 0)]) (st1 := []) (M1 := V2) (ob := [2 < 3]) rfl rfl (fs_oc (by decide) trivial) ?_
  have loop24 : ∀ (n24 : Nat) (i : Int) (M3 : fs_M) (j : Nat), ((j : Int) = i ∧ i ≤ k) → (cq M M3) → (fdE M3 (ec_pl N) (ec_it (ec_pl N) (ec_calm (ec_pl N)) j)) → (∀ r, (r < 20 ∨ 35 < r) → M3 r = M r) → k - i < (n24 : Int) → fs_W (d + 4) 144 24 [some (.inr (.ref 0)), some (.inl k), some (.inl i)] [] M3 Q := by
    intro n24
    induction n24 with
    | zero =>
      intro i M3 j i0 q3 d3 s3 hm24
      exfalso
      omega
    | succ n24 ih24 =>
      intro i M3 j i0 q3 d3 s3 hm24
      refine fs_r_icmp (a := i) (y := k) (L1 := [some (.inr (.ref 0)), some (.inl k), some (.inl i)]) (st1 := []) (M1 := M3) (ob := []) rfl rfl trivial (fun (h1 : k ≤ i) => ?_) (fun (h1 : ¬ (k ≤ i)) => ?_)
      · refine fs_r_ret (L1 := [some (.inr (.ref 0)), some (.inl k), some (.inl i)]) (M1 := M3) (ob := []) rfl rfl trivial ?_
        exact hq0 _ q3 (by rw [show k.toNat = j by omega]; exact d3) s3
      refine fs_r_call (sta := false) (idx := 283) (as := [.inr (.ref 20), .inr (.ref 32), .inr (.ref 34)]) (rest := []) (L1 := [some (.inr (.ref 0)), some (.inl k), some (.inl i)]) (st1 := [.inr (.ref 34), .inr (.ref 32), .inr (.ref 20)]) (M1 := M3) (ob := [0 < fs_N ∧ fs_kd 0 = 5, 0 < fs_N ∧ fs_kd 0 = 5, 0 < fs_N ∧ fs_kd 0 = 5]) rfl rfl rfl (fs_oc fs_ob0 (fs_oc fs_ob0 (fs_oc fs_ob0 trivial))) rfl rfl (Nat.le_of_ble_eq_true rfl) ⟨Or.inr (Nat.le_of_ble_eq_true rfl), Or.inr fs_ob20⟩ (by decide) ?_
      refine fs_c_advance (d3.b) (d3.S) (fun (V2 : fs_M) (g1 : mk_f M3 V2) (g2 : sst V2 32 = ec_next (mk M3) (sst M3 32)) (g3 : sb V2 32) (g4 : ¬ sst V2 32 = sst M3 32) => ?_) (fun (V2 : fs_M) (g1 : mk_f M3 V2) (g2 : sst V2 32 = ec_next (mk M3) (sst M3 32)) (g3 : sb V2 32) (g4 : sst V2 32 = sst M3 32) => ?_)
      · refine fs_r_if (a := 1) (L1 := [some (.inr (.ref 0)), some (.inl k), some (.inl i)]) (st1 := []) (M1 := V2) (ob := []) rfl rfl trivial (fun _ => ?_) (fun h => absurd (by decide : ¬ (1 : Int) = 0) h)
        refine fs_r_goto (L1 := [some (.inr (.ref 0)), some (.inl k), some (.inl (i + 1))]) (st1 := []) (M1 := V2) (ob := [fs_rg (i + 1)]) rfl rfl (fs_oc ⟨by omega, by omega⟩ trivial) ?_
        exact ih24 ((i + 1)) V2 ((j + 1)) (by omega) (q3.tr (cq.f g1)) (d3.go g1 g2 g3) (fun r q => (g1 r (by omega) (by omega)).trans (s3 r q)) (by omega)
      refine fs_r_if (a := 0) (L1 := [some (.inr (.ref 0)), some (.inl k), some (.inl i)]) (st1 := []) (M1 := V2) (ob := []) rfl rfl trivial (fun h => absurd h (by decide : ¬ (¬ (0 : Int) = 0))) (fun _ => ?_)
      refine fs_r_ret (L1 := [some (.inr (.ref 0)), some (.inl k), some (.inl i)]) (M1 := V2) (ob := []) rfl rfl trivial ?_
      have cc : ec_it (ec_pl N) (ec_calm (ec_pl N)) (j + 1) = ec_it (ec_pl N) (ec_calm (ec_pl N)) j := (d3.go g1 g2 g3).2.2.1.symm.trans (g4.trans d3.2.2.1)
      have d4 := d3.go g1 g2 g3
      exact hq0 _ (q3.tr (cq.f g1)) (by rw [show k.toNat = j + (k.toNat - j) by omega, ec_it_const cc, ← cc]; exact d4) (fun r q => (g1 r (by omega) (by omega)).trans (s3 r q))
  exact loop24 (((k - (0)) : Int) + 1).toNat (0) V2 (0) (by omega) ((cq.ld l1).tr (cq.f (f3233 t1))) (fdE.calm (pl_bd hN) l2 t1 t2 t3) (fun r q => (t1 r (by omega) (by omega)).trans (l1 r (by omega))) (by omega)
