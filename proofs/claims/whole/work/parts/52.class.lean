/-! The Market -/
def mk (M : fs_M) : Nat → Int → Int := fun c i => match c with
  | 0 => M 20 i
  | 1 => M 21 i
  | 2 => M 22 i
  | 3 => M 23 i
  | 4 => M 24 i
  | 5 => M 25 i
  | 7 => M 27 i
  | 8 => M 28 i
  | 9 => M 29 i
  | 10 => M 30 i
  | 11 => M 31 i
  | _ => 0
def mk_b (M : fs_M) : Prop := (0 ≤ M 20 0 ∧ M 20 0 ≤ 4) ∧ (0 ≤ M 20 1 ∧ M 20 1 ≤ 6) ∧ (0 ≤ M 20 2 ∧ M 20 2 < 64) ∧
  (∀ a, 0 ≤ a → a < M 20 0 → (-5000 ≤ M 21 a ∧ M 21 a ≤ 200) ∧ (0 ≤ M 22 a ∧ M 22 a ≤ 9) ∧ (0 ≤ M 23 a ∧ M 23 a ≤ 360) ∧ (0 ≤ M 24 a ∧ M 24 a ≤ 360) ∧ (0 ≤ M 25 a ∧ M 25 a ≤ 360)) ∧
  (∀ h, 0 ≤ h → h < M 20 1 → (-30000 ≤ M 27 h ∧ M 27 h ≤ 30000) ∧ (0 ≤ M 28 h ∧ M 28 h ≤ 240) ∧ (0 ≤ M 29 (5 * h + 2) ∧ M 29 (5 * h + 2) ≤ 9999) ∧ (1 ≤ M 29 (5 * h + 3) ∧ M 29 (5 * h + 3) ≤ 99) ∧ (0 ≤ M 29 (5 * h + 4) ∧ M 29 (5 * h + 4) ≤ 1)) ∧
  (∀ h a, 0 ≤ h → h < M 20 1 → 0 ≤ a → a < M 20 0 → 0 ≤ M 30 (4 * h + a) ∧ M 30 (4 * h + a) ≤ 60) ∧ (∀ o h, 0 ≤ o → o < M 20 1 → 0 ≤ h → h < M 20 1 → 0 ≤ M 31 (6 * o + h) ∧ M 31 (6 * o + h) ≤ 999)
def ec_bd (E : Nat → Int → Int) : Prop := (0 ≤ E 0 0 ∧ E 0 0 ≤ 4) ∧ (0 ≤ E 0 1 ∧ E 0 1 ≤ 6) ∧ (0 ≤ E 0 2 ∧ E 0 2 < 64) ∧
  (∀ a, 0 ≤ a → a < E 0 0 → (-5000 ≤ E 1 a ∧ E 1 a ≤ 200) ∧ (0 ≤ E 2 a ∧ E 2 a ≤ 9) ∧ (0 ≤ E 3 a ∧ E 3 a ≤ 360) ∧ (0 ≤ E 4 a ∧ E 4 a ≤ 360) ∧ (0 ≤ E 5 a ∧ E 5 a ≤ 360)) ∧
  (∀ h, 0 ≤ h → h < E 0 1 → (-30000 ≤ E 7 h ∧ E 7 h ≤ 30000) ∧ (0 ≤ E 8 h ∧ E 8 h ≤ 240) ∧ (0 ≤ E 9 (5 * h + 2) ∧ E 9 (5 * h + 2) ≤ 9999) ∧ (1 ≤ E 9 (5 * h + 3) ∧ E 9 (5 * h + 3) ≤ 99) ∧ (0 ≤ E 9 (5 * h + 4) ∧ E 9 (5 * h + 4) ≤ 1)) ∧
  (∀ h a, 0 ≤ h → h < E 0 1 → 0 ≤ a → a < E 0 0 → 0 ≤ E 10 (4 * h + a) ∧ E 10 (4 * h + a) ≤ 60) ∧ (∀ o h, 0 ≤ o → o < E 0 1 → 0 ≤ h → h < E 0 1 → 0 ≤ E 11 (6 * o + h) ∧ E 11 (6 * o + h) ≤ 999)
theorem mk_b.bd {M : fs_M} (h : mk_b M) : ec_bd (mk M) := h
theorem ec_bd.b {M : fs_M} (h : ec_bd (mk M)) : mk_b M := h
theorem ec_eq.bd {E F : Nat → Int → Int} (h : ec_eq E F) (k : ec_bd F) : ec_bd E := by
  obtain ⟨h1, h2, h3, h4, h5, h6, h7⟩ := h
  obtain ⟨k1, k2, k3, k4, k5, k6, k7⟩ := k
  refine ⟨by omega, by omega, by omega, fun a p q => ?_, fun a p q => ?_, fun a b p q r s => ?_, fun a b p q r s => ?_⟩
  · obtain ⟨x1, x2, x3, x4, x5⟩ := h4 a p q
    rw [x1, x2, x3, x4, x5]
    exact k4 a p (by omega)
  · obtain ⟨x1, x2, x3, x4, x5⟩ := h5 a p q
    rw [x1, x2, x3, x4, x5]
    exact k5 a p (by omega)
  · rw [h6 a b p q r s]
    exact k6 a b p (by omega) r (by omega)
  · rw [h7 a b p q r s]
    exact k7 a b p (by omega) r (by omega)
/-- the rounds come to rest -/
theorem ec_bd.em {E : Nat → Int → Int} (h : ec_bd E) : ec_em E := by
  obtain ⟨h1, h2, h3, h4, h5, h6, h7⟩ := h
  exact ⟨h1, h2, h3, fun a a0 a1 => ⟨(h4 a a0 a1).2.1.1, (h4 a a0 a1).2.2.1.1, (h4 a a0 a1).2.2.1.2⟩, fun q q0 q1 => (h5 q q0 q1).2.2.2.1.1, fun q a q0 q1 a0 a1 => (h6 q a q0 q1 a0 a1).1, fun o q o0 o1 q0 q1 => (h7 o q o0 o1 q0 q1).1⟩
theorem ec_eq.hd {E F : Nat → Int → Int} (e : ec_eq E F) (h : ec_hd F) : ec_hd E := fun a a0 a1 => by
  obtain ⟨e1, e2, e3, e4, e5, e6, e7⟩ := e
  have w := h a a0 (by omega)
  have s : fs_sum (E 0 1).toNat (fun q => E 10 (4 * q + a)) = fs_sum (F 0 1).toNat (fun q => F 10 (4 * q + a)) := by
    rw [← e2]
    exact fs_sum_c (fun i i0 i1 => e6 i a i0 (by omega) a0 a1)
  rw [s, (e4 a a0 a1).2.2.2.2]
  exact w
theorem ec_okc {E : Nat → Int → Int} (h : ec_bd E) : ec_ok E (ec_calm E) := ec_up h.em
theorem ec_okp {E : Nat → Int → Int} (h : ec_bd E) (d : ec_hd E) : ec_ok E (ec_panic E) := ec_down h.em d
/-- only prices, found and spare have changed -/
def mk_f (M M2 : fs_M) : Prop := ∀ r, r ≠ 26 → (r < 32 ∨ 35 < r) → M2 r = M r
theorem mk_f.rf {M : fs_M} : mk_f M M := fun _ _ _ => rfl
theorem mk_f.tr {A B C : fs_M} (h : mk_f A B) (k : mk_f B C) : mk_f A C := fun r a b => (k r a b).trans (h r a b)
theorem mk_f.up {M M2 : fs_M} {r : Nat} {i v : Int} (h : mk_f M M2) (q : r = 26 ∨ (32 ≤ r ∧ r ≤ 35)) : mk_f M (fs_up M2 r i v) := fun r' a b => by rw [fs_up_other (by omega)]; exact h r' a b
theorem mk_f.cp {M M2 : fs_M} {f t : Nat} {n : Int} (h : mk_f M M2) (q : t = 26 ∨ (32 ≤ t ∧ t ≤ 35)) : mk_f M (fs_cp M2 f t n) := fun r' a b => by rw [fs_cp_o (by omega)]; exact h r' a b
theorem mk_f.cl {M M2 : fs_M} {t : Nat} {n : Int} (h : mk_f M M2) (q : t = 26 ∨ (32 ≤ t ∧ t ≤ 35)) : mk_f M (fs_cl M2 t n) := fun r' a b => by rw [fs_cl_o (by omega)]; exact h r' a b
theorem mk_eq {M M2 : fs_M} (h : ∀ r, 20 ≤ r → r < 32 → r ≠ 26 → M2 r = M r) : mk M2 = mk M := by
  unfold mk
  rw [h 20 (by decide) (by decide) (by decide), h 21 (by decide) (by decide) (by decide), h 22 (by decide) (by decide) (by decide), h 23 (by decide) (by decide) (by decide), h 24 (by decide) (by decide) (by decide), h 25 (by decide) (by decide) (by decide), h 27 (by decide) (by decide) (by decide), h 28 (by decide) (by decide) (by decide), h 29 (by decide) (by decide) (by decide), h 30 (by decide) (by decide) (by decide), h 31 (by decide) (by decide) (by decide)]
theorem mk_b.fr {M M2 : fs_M} (h : ∀ r, 20 ≤ r → r < 32 → r ≠ 26 → M2 r = M r) (k : mk_b M) : mk_b M2 := by
  unfold mk_b at *
  rw [h 20 (by decide) (by decide) (by decide), h 21 (by decide) (by decide) (by decide), h 22 (by decide) (by decide) (by decide), h 23 (by decide) (by decide) (by decide), h 24 (by decide) (by decide) (by decide), h 25 (by decide) (by decide) (by decide), h 27 (by decide) (by decide) (by decide), h 28 (by decide) (by decide) (by decide), h 29 (by decide) (by decide) (by decide), h 30 (by decide) (by decide) (by decide), h 31 (by decide) (by decide) (by decide)]
  exact k
theorem mk_f.E {M M2 : fs_M} (h : mk_f M M2) : mk M2 = mk M := mk_eq (fun r a b c => h r c (Or.inl b))
theorem mk_f.b {M M2 : fs_M} (h : mk_f M M2) (k : mk_b M) : mk_b M2 := mk_b.fr (fun r a b c => h r c (Or.inl b)) k
/-- bounds of what is told of an economy -/
theorem mk_price_b {M : fs_M} {a n : Int} (hM : mk_b M) (ha : 0 ≤ a ∧ a < M 20 0) (hn : 0 ≤ n) : 0 ≤ ec_price (mk M) a n ∧ ec_price (mk M) a n ≤ 200 := by
  obtain ⟨x1, x2, x3, x4, x5⟩ := hM.2.2.2.1 a ha.1 ha.2
  have h5 : 0 ≤ M 22 a * max 0 (n - M 24 a) := Int.mul_nonneg x2.1 (by omega)
  show 0 ≤ max 0 (M 21 a - M 22 a * max 0 (n - M 24 a)) ∧ max 0 (M 21 a - M 22 a * max 0 (n - M 24 a)) ≤ 200
  omega
theorem mk_val_b {M : fs_M} {S : Int → Int} {h : Int} {n : Nat} (hM : mk_b M) (hh : 0 ≤ h ∧ h < M 20 1) (hS : ∀ a, 0 ≤ a → a < 4 → 0 ≤ S a) (hn : (n : Int) ≤ M 20 0) : 0 ≤ fs_sum n (fun a => mk M 10 (4 * h + a) * ec_price (mk M) a (S a)) ∧ fs_sum n (fun a => mk M 10 (4 * h + a) * ec_price (mk M) a (S a)) ≤ 12000 * n := by
  refine fs_sum_b fun a a0 a1 => ?_
  have x1 := hM.2.2.2.2.2.1 h a hh.1 hh.2 a0 (by omega)
  have x2 := mk_price_b (a := a) (n := S a) hM ⟨a0, by omega⟩ (hS a a0 (by have := hM.1; omega))
  have x3 : 0 ≤ mk M 10 (4 * h + a) ∧ mk M 10 (4 * h + a) ≤ 60 := x1
  have x4 : mk M 10 (4 * h + a) * ec_price (mk M) a (S a) ≤ 60 * 200 := Int.mul_le_mul x3.2 x2.2 x2.1 (by omega)
  exact ⟨Int.mul_nonneg x3.1 x2.1, by omega⟩
theorem mk_owed_b {M : fs_M} {S : Int → Int} {h : Int} {n : Nat} (hM : mk_b M) (hh : 0 ≤ h ∧ h < M 20 1) (hn : (n : Int) ≤ M 20 1) : 0 ≤ fs_sum n (fun o => if fs_bt (S 4) o = 0 then mk M 11 (6 * o + h) else 0) ∧ fs_sum n (fun o => if fs_bt (S 4) o = 0 then mk M 11 (6 * o + h) else 0) ≤ 999 * n := by
  refine fs_sum_b fun o o0 o1 => ?_
  have x1 : 0 ≤ mk M 11 (6 * o + h) ∧ mk M 11 (6 * o + h) ≤ 999 := hM.2.2.2.2.2.2 o h o0 (by omega) hh.1 hh.2
  split <;> omega
theorem mk_worth_b {M : fs_M} {S : Int → Int} {h : Int} (hM : mk_b M) (hh : 0 ≤ h ∧ h < M 20 1) (hS : ∀ a, 0 ≤ a → a < 4 → 0 ≤ S a) : -100000 ≤ ec_worth (mk M) S h ∧ ec_worth (mk M) S h ≤ 100000 := by
  have hA := hM.1
  have hH := hM.2.1
  have x1 := mk_val_b (n := (M 20 0).toNat) hM hh hS (by omega)
  have x2 := mk_owed_b (S := S) (n := (M 20 1).toNat) hM hh (by omega)
  have x3 := (hM.2.2.2.2.1 h hh.1 hh.2).1
  show -100000 ≤ M 27 h + fs_sum (M 20 0).toNat _ + fs_sum (M 20 1).toNat _ ∧ M 27 h + fs_sum (M 20 0).toNat _ + fs_sum (M 20 1).toNat _ ≤ 100000
  omega
theorem mk_due_b {M : fs_M} {h w : Int} (hM : mk_b M) (hh : 0 ≤ h ∧ h < M 20 1) : 0 ≤ ec_due (mk M) h w ∧ ec_due (mk M) h w ≤ 240 := by
  obtain ⟨x1, x2, x3, x4, x5⟩ := hM.2.2.2.2.1 h hh.1 hh.2
  show 0 ≤ (if w < 0 then M 28 h else if M 29 (5 * h + 2) - w ≤ 0 then min (M 28 h) 0 else min (M 28 h) ((M 29 (5 * h + 2) - w + M 29 (5 * h + 3) - 1) / M 29 (5 * h + 3))) ∧ (if w < 0 then M 28 h else if M 29 (5 * h + 2) - w ≤ 0 then min (M 28 h) 0 else min (M 28 h) ((M 29 (5 * h + 2) - w + M 29 (5 * h + 3) - 1) / M 29 (5 * h + 3))) ≤ 240
  by_cases a : w < 0
  · rw [if_pos a]
    exact x2
  · rw [if_neg a]
    by_cases b : M 29 (5 * h + 2) - w ≤ 0
    · rw [if_pos b]
      omega
    · rw [if_neg b]
      have : 0 ≤ (M 29 (5 * h + 2) - w + M 29 (5 * h + 3) - 1) / M 29 (5 * h + 3) := Int.ediv_nonneg (by omega) (by omega)
      omega
theorem mk_part_b {M : fs_M} {h a due : Int} (hM : mk_b M) (hh : 0 ≤ h ∧ h < M 20 1) (ha : 0 ≤ a ∧ a < M 20 0) : 0 ≤ ec_part (mk M) h due a ∧ ec_part (mk M) h due a ≤ 60 := by
  have x1 : 0 ≤ mk M 10 (4 * h + a) ∧ mk M 10 (4 * h + a) ≤ 60 := hM.2.2.2.2.2.1 h a hh.1 hh.2 ha.1 ha.2
  unfold ec_part ec_left
  omega
theorem fs_c_priceAt {d : Nat} {M : fs_M} {Q : Option fs_V → fs_M → Prop} {a : Int} {n : Int}  (hM : mk_b M) (ha : 0 ≤ a ∧ a < M 20 0) (hn : 0 ≤ n ∧ n ≤ 400) (hq0 : Q (some (.inl (ec_price (mk M) a n))) M) : fs_W (d + 1) 37 0 [some (.inr (.ref 20)), some (.inl a), some (.inl n), none] [] M Q := by
  obtain ⟨⟨hA0, hA1⟩, ⟨hH0, hH1⟩, ⟨hf0, hf1⟩, hma, hmh, hmo, hml⟩ := id hM
  obtain ⟨x1, x2, x3, x4, x5⟩ := hma a ha.1 ha.2
  have h5 : 0 ≤ M 22 a * max 0 (n - M 24 a) ∧ M 22 a * max 0 (n - M 24 a) ≤ 9 * 400 := ⟨Int.mul_nonneg x2.1 (by omega), Int.mul_le_mul x2.2 (by omega) (by omega) (by omega)⟩
  refine fs_r_nat (v := .inl (max 0 (n - (M 24 a)))) (sta := true) (idx := 109) (as := [.inl 0, .inl (n - (M 24 a))]) (rest := []) (L1 := [some (.inr (.ref 20)), some (.inl a), some (.inl n), none]) (st1 := [.inl (n - (M 24 a)), .inl 0]) (M1 := M) (ob := [20 < fs_N ∧ fs_kd 20 = 1, (24 < fs_N ∧ fs_kd 24 = 100) ∧ (0 : Int) ≤ a ∧ a < fs_ln 24, fs_rg (n - (M 24 a))]) rfl rfl rfl (fs_oc fs_ob20 (fs_oc (fs_ar24 (by omega) (by omega)) (fs_oc ⟨by omega, by omega⟩ trivial))) rfl rfl (Nat.le_of_ble_eq_true rfl) ⟨Or.inl (by decide), trivial⟩ (by decide) (rfl) ?_
  refine fs_r_nat (v := .inl (max 0 ((M 21 a) - ((M 22 a) * (max 0 (n - (M 24 a))))))) (sta := true) (idx := 109) (as := [.inl 0, .inl ((M 21 a) - ((M 22 a) * (max 0 (n - (M 24 a)))))]) (rest := []) (L1 := [some (.inr (.ref 20)), some (.inl a), some (.inl n), some (.inl (max 0 (n - (M 24 a))))]) (st1 := [.inl ((M 21 a) - ((M 22 a) * (max 0 (n - (M 24 a))))), .inl 0]) (M1 := M) (ob := [3 < 4, 20 < fs_N ∧ fs_kd 20 = 1, (21 < fs_N ∧ fs_kd 21 = 100) ∧ (0 : Int) ≤ a ∧ a < fs_ln 21, 20 < fs_N ∧ fs_kd 20 = 1, (22 < fs_N ∧ fs_kd 22 = 100) ∧ (0 : Int) ≤ a ∧ a < fs_ln 22, fs_rg ((M 22 a) * (max 0 (n - (M 24 a)))), fs_rg ((M 21 a) - ((M 22 a) * (max 0 (n - (M 24 a)))))]) rfl rfl (fs_exA 6 (o1 := [3 < 4, 20 < fs_N ∧ fs_kd 20 = 1, (21 < fs_N ∧ fs_kd 21 = 100) ∧ (0 : Int) ≤ a ∧ a < fs_ln 21]) (L1 := [some (.inr (.ref 20)), some (.inl a), some (.inl n), some (.inl (max 0 (n - (M 24 a))))]) (st1 := [.inl (M 21 a), .inl 0]) (M1 := M) (o2 := [20 < fs_N ∧ fs_kd 20 = 1, (22 < fs_N ∧ fs_kd 22 = 100) ∧ (0 : Int) ≤ a ∧ a < fs_ln 22, fs_rg ((M 22 a) * (max 0 (n - (M 24 a)))), fs_rg ((M 21 a) - ((M 22 a) * (max 0 (n - (M 24 a)))))]) rfl rfl) (fs_oc (by decide) (fs_oc fs_ob20 (fs_oc (fs_ar21 (by omega) (by omega)) (fs_oc fs_ob20 (fs_oc (fs_ar22 (by omega) (by omega)) (fs_oc ⟨by omega, by omega⟩ (fs_oc ⟨by omega, by omega⟩ trivial))))))) rfl rfl (Nat.le_of_ble_eq_true rfl) ⟨Or.inl (by decide), trivial⟩ (by decide) (rfl) ?_
  refine fs_r_iret (a := (max 0 ((M 21 a) - ((M 22 a) * (max 0 (n - (M 24 a))))))) (L1 := [some (.inr (.ref 20)), some (.inl a), some (.inl n), some (.inl (max 0 (n - (M 24 a))))]) (M1 := M) (ob := []) rfl rfl trivial (Or.inl rfl) ?_
  exact fs_qi (rfl) hq0

theorem fs_c_priceBy {d : Nat} {M : fs_M} {Q : Option fs_V → fs_M → Prop}   (hM : mk_b M) (hS : sb M 32) (hq0 : ∀ (M2 : fs_M), (∀ r, r ≠ 26 → M2 r = M r) → (∀ q, 0 ≤ q → q < M 20 0 → M2 26 q = ec_price (mk M) q (M 33 q)) → Q none M2) : fs_W (d + 2) 38 0 [some (.inr (.ref 20)), some (.inr (.ref 32)), none] [] M Q := by
  obtain ⟨⟨hA0, hA1⟩, ⟨hH0, hH1⟩, ⟨hf0, hf1⟩, hma, hmh, hmo, hml⟩ := id hM
  obtain ⟨⟨hs0, hs1⟩, hsd⟩ := sb32 hS
  refine fs_r_nop (L1 := [some (.inr (.ref 20)), some (.inr (.ref 32)), some (.inl 0)]) (st1 := []) (M1 := M) (ob := [2 < 3]) rfl rfl (fs_oc (by decide) trivial) ?_
  have loop2 : ∀ (n2 : Nat) (i : Int) (M2 : fs_M), (0 ≤ i ∧ i ≤ M 20 0) → (∀ r, r ≠ 26 → M2 r = M r) → (∀ q, 0 ≤ q → q < i → M2 26 q = ec_price (mk M) q (M 33 q)) → M 20 0 - i < (n2 : Int) → fs_W (d + 2) 38 2 [some (.inr (.ref 20)), some (.inr (.ref 32)), some (.inl i)] [] M2 Q := by
    intro n2
    induction n2 with
    | zero =>
      intro i M2 i0 f0 p0 hm2
      exfalso
      omega
    | succ n2 ih2 =>
      intro i M2 i0 f0 p0 hm2
      have e20 := congrFun (f0 20 (by decide)) 0
      have e33 := f0 33 (by decide)
      have eE : mk M2 = mk M := mk_eq (fun r a b c => f0 r c)
      refine fs_r_icmp (a := i) (y := (M2 20 0)) (L1 := [some (.inr (.ref 20)), some (.inr (.ref 32)), some (.inl i)]) (st1 := []) (M1 := M2) (ob := [20 < fs_N ∧ fs_kd 20 = 1]) rfl rfl (fs_oc fs_ob20 trivial) (fun (h1 : (M2 20 0) ≤ i) => ?_) (fun (h1 : ¬ ((M2 20 0) ≤ i)) => ?_)
      · refine fs_r_ret (L1 := [some (.inr (.ref 20)), some (.inr (.ref 32)), some (.inl i)]) (M1 := M2) (ob := []) rfl rfl trivial ?_
        exact hq0 _ f0 (fun q q0 q1 => p0 q q0 (by omega))
      have q := hsd i (by omega) (by omega)
      rw [← e33] at q
      refine fs_r_call (sta := false) (idx := 112) (as := [.inr (.ref 20), .inl i, .inl (M2 33 i)]) (rest := [.inl i, .inr (.ref 26)]) (L1 := [some (.inr (.ref 20)), some (.inr (.ref 32)), some (.inl i)]) (st1 := [.inl (M2 33 i), .inl i, .inr (.ref 20), .inl i, .inr (.ref 26)]) (M1 := M2) (ob := [20 < fs_N ∧ fs_kd 20 = 1, 32 < fs_N ∧ fs_kd 32 = 3, (33 < fs_N ∧ fs_kd 33 = 100) ∧ (0 : Int) ≤ i ∧ i < fs_ln 33]) rfl rfl (fs_exA 6 (o1 := [20 < fs_N ∧ fs_kd 20 = 1]) (L1 := [some (.inr (.ref 20)), some (.inr (.ref 32)), some (.inl i)]) (st1 := [.inr (.ref 32), .inl i, .inr (.ref 20), .inl i, .inr (.ref 26)]) (M1 := M2) (o2 := [32 < fs_N ∧ fs_kd 32 = 3, (33 < fs_N ∧ fs_kd 33 = 100) ∧ (0 : Int) ≤ i ∧ i < fs_ln 33]) rfl rfl) (fs_oc fs_ob20 (fs_oc fs_ob32 (fs_oc (fs_ar33 (by omega) (by omega)) trivial))) rfl rfl (Nat.le_of_ble_eq_true rfl) ⟨Or.inr (Nat.le_of_ble_eq_true rfl), Or.inr fs_ob20⟩ (by decide) ?_
      refine fs_c_priceAt (mk_b.fr (fun r a b c => f0 r c) hM) (by omega) (by omega) ?_
      refine fs_r_goto (L1 := [some (.inr (.ref 20)), some (.inr (.ref 32)), some (.inl (i + 1))]) (st1 := []) (M1 := (fs_up M2 26 i (ec_price (mk M2) i (M2 33 i)))) (ob := [(26 < fs_N ∧ fs_kd 26 = 100) ∧ (0 : Int) ≤ i ∧ i < fs_ln 26, fs_rg (i + 1)]) rfl rfl (fs_oc (fs_ar26 (by omega) (by omega)) (fs_oc ⟨by omega, by omega⟩ trivial)) ?_
      exact ih2 ((i + 1)) (fs_up M2 26 i (ec_price (mk M2) i (M2 33 i))) (by omega) (fun r q => by rw [fs_up_other q]; exact f0 r q) (fun q q0 q1 => by rw [fs_up_at]; by_cases z : q = i; (rw [if_pos z, z, eE, e33]); (rw [if_neg z]; exact p0 q q0 (by omega))) (by omega)
  exact loop2 (((M 20 0 - (0)) : Int) + 1).toNat (0) M (by omega) (fun r _ => rfl) (fun q _ _ => by omega) (by omega)

theorem fs_c_worthOf {d : Nat} {M : fs_M} {Q : Option fs_V → fs_M → Prop} {h : Int}  (hM : mk_b M) (hS : sb M 32) (hh : 0 ≤ h ∧ h < M 20 1) (hp : ∀ q, 0 ≤ q → q < M 20 0 → M 26 q = ec_price (mk M) q (M 33 q)) (hq0 : Q (some (.inl (ec_worth (mk M) (sst M 32) h))) M) : fs_W (d + 1) 39 0 [some (.inr (.ref 20)), some (.inl h), some (.inr (.ref 32)), none, none] [] M Q := by
  obtain ⟨⟨hA0, hA1⟩, ⟨hH0, hH1⟩, ⟨hf0, hf1⟩, hma, hmh, hmo, hml⟩ := id hM
  obtain ⟨⟨hs0, hs1⟩, hsd⟩ := sb32 hS
  have hSn : ∀ a, 0 ≤ a → a < 4 → 0 ≤ sst M 32 a := fun a a0 a1 => by rw [sst_at ⟨a0, a1⟩]; exact (hsd a a0 a1).1
  have hw := (hmh h hh.1 hh.2).1
  refine fs_r_nop (L1 := [some (.inr (.ref 20)), some (.inl h), some (.inr (.ref 32)), some (.inl (M 27 h)), some (.inl 0)]) (st1 := []) (M1 := M) (ob := [20 < fs_N ∧ fs_kd 20 = 1, (27 < fs_N ∧ fs_kd 27 = 100) ∧ (0 : Int) ≤ h ∧ h < fs_ln 27, 3 < 5, 4 < 5]) rfl rfl (fs_oc fs_ob20 (fs_oc (fs_ar27 (by omega) (by omega)) (fs_oc (by decide) (fs_oc (by decide) trivial)))) ?_
  have loop10 : ∀ (n10 : Nat) (v : Int) (i : Int), (0 ≤ i ∧ i ≤ M 20 0) → (v = M 27 h + fs_sum i.toNat (fun a => mk M 10 (4 * h + a) * ec_price (mk M) a (sst M 32 a))) → M 20 0 - i < (n10 : Int) → fs_W (d + 1) 39 10 [some (.inr (.ref 20)), some (.inl h), some (.inr (.ref 32)), some (.inl v), some (.inl i)] [] M Q := by
    intro n10
    induction n10 with
    | zero =>
      intro v i i0 v0 hm10
      exfalso
      omega
    | succ n10 ih10 =>
      intro v i i0 v0 hm10
      have vb := mk_val_b (n := i.toNat) hM hh hSn (by omega)
      refine fs_r_icmp (a := i) (y := (M 20 0)) (L1 := [some (.inr (.ref 20)), some (.inl h), some (.inr (.ref 32)), some (.inl v), some (.inl i)]) (st1 := []) (M1 := M) (ob := [20 < fs_N ∧ fs_kd 20 = 1]) rfl rfl (fs_oc fs_ob20 trivial) (fun (h1 : (M 20 0) ≤ i) => ?_) (fun (h1 : ¬ ((M 20 0) ≤ i)) => ?_)
      · refine fs_r_nop (L1 := [some (.inr (.ref 20)), some (.inl h), some (.inr (.ref 32)), some (.inl v), some (.inl 0)]) (st1 := []) (M1 := M) (ob := [4 < 5]) rfl rfl (fs_oc (by decide) trivial) ?_
        have loop50 : ∀ (n50 : Nat) (v2 : Int) (i : Int), (0 ≤ i ∧ i ≤ M 20 1) → (v2 = M 27 h + ec_val (mk M) (sst M 32) h + fs_sum i.toNat (fun o => if fs_bt (sst M 32 4) o = 0 then mk M 11 (6 * o + h) else 0)) → M 20 1 - i < (n50 : Int) → fs_W (d + 1) 39 50 [some (.inr (.ref 20)), some (.inl h), some (.inr (.ref 32)), some (.inl v2), some (.inl i)] [] M Q := by
          intro n50
          induction n50 with
          | zero =>
            intro v2 i i1 v1 hm50
            exfalso
            omega
          | succ n50 ih50 =>
            intro v2 i i1 v1 hm50
            have vb := mk_val_b (n := (M 20 0).toNat) hM hh hSn (by omega)
            have vc := mk_owed_b (S := sst M 32) (n := i.toNat) hM hh (by omega)
            have vd : ec_val (mk M) (sst M 32) h = fs_sum (M 20 0).toNat (fun a => mk M 10 (4 * h + a) * ec_price (mk M) a (sst M 32 a)) := rfl
            rw [← vd] at vb
            refine fs_r_icmp (a := i) (y := (M 20 1)) (L1 := [some (.inr (.ref 20)), some (.inl h), some (.inr (.ref 32)), some (.inl v2), some (.inl i)]) (st1 := []) (M1 := M) (ob := [20 < fs_N ∧ fs_kd 20 = 1]) rfl rfl (fs_oc fs_ob20 trivial) (fun (h2 : (M 20 1) ≤ i) => ?_) (fun (h2 : ¬ ((M 20 1) ≤ i)) => ?_)
            · refine fs_r_iret (a := v2) (L1 := [some (.inr (.ref 20)), some (.inl h), some (.inr (.ref 32)), some (.inl v2), some (.inl i)]) (M1 := M) (ob := []) rfl rfl trivial (Or.inl rfl) ?_
              exact fs_qi (by rw [v1, show i = M 20 1 by omega]; rfl) hq0
            have q1 := hml i h (by omega) (by omega) hh.1 hh.2
            have q4 : M 31 ((i * 6) + h) = M 31 (6 * i + h) := congrArg (M 31) (by omega)
            have q7 := fs_bt01 (f := M 32 1) (o := i) hs0 hs1 (by omega) (by omega)
            have q8 : sst M 32 4 = M 32 1 := sst_4
            refine fs_r_call (sta := false) (idx := 115) (as := [.inr (.ref 32), .inl i]) (rest := []) (L1 := [some (.inr (.ref 20)), some (.inl h), some (.inr (.ref 32)), some (.inl v2), some (.inl i)]) (st1 := [.inl i, .inr (.ref 32)]) (M1 := M) (ob := []) rfl rfl rfl trivial rfl rfl (Nat.le_of_ble_eq_true rfl) ⟨Or.inr (Nat.le_of_ble_eq_true rfl), Or.inr fs_ob32⟩ (by decide) ?_
            refine fs_c_isFallen (fun (f3 : fs_bt (M 32 1) i = 1) => ?_) (fun (f4 : ¬ (fs_bt (M 32 1) i = 1)) => ?_)
            · refine fs_r_if (a := 1) (L1 := [some (.inr (.ref 20)), some (.inl h), some (.inr (.ref 32)), some (.inl v2), some (.inl i)]) (st1 := []) (M1 := M) (ob := []) rfl rfl trivial (fun _ => ?_) (fun h => absurd (by decide : ¬ (1 : Int) = 0) h)
              refine fs_r_goto (L1 := [some (.inr (.ref 20)), some (.inl h), some (.inr (.ref 32)), some (.inl v2), some (.inl (i + 1))]) (st1 := []) (M1 := M) (ob := [fs_rg (i + 1)]) rfl rfl (fs_oc ⟨by omega, by omega⟩ trivial) ?_
              exact ih50 (v2) ((i + 1)) (by omega) (by
                   rw [fs_sum_s i1.1, v1, q8]
                   first
                     | (rw [if_neg (by omega)]; omega)
                     | (rw [if_pos (by omega)]; show _ = _ + (_ + M 31 (6 * i + h)); rw [← q4]; omega)) (by omega)
            refine fs_r_if (a := 0) (L1 := [some (.inr (.ref 20)), some (.inl h), some (.inr (.ref 32)), some (.inl v2), some (.inl i)]) (st1 := []) (M1 := M) (ob := []) rfl rfl trivial (fun h => absurd h (by decide : ¬ (¬ (0 : Int) = 0))) (fun _ => ?_)
            refine fs_r_nop (L1 := [some (.inr (.ref 20)), some (.inl h), some (.inr (.ref 32)), some (.inl (v2 + (M 31 ((i * 6) + h)))), some (.inl i)]) (st1 := []) (M1 := M) (ob := [20 < fs_N ∧ fs_kd 20 = 1, fs_rg (i * 6), fs_rg ((i * 6) + h), (31 < fs_N ∧ fs_kd 31 = 100) ∧ (0 : Int) ≤ ((i * 6) + h) ∧ ((i * 6) + h) < fs_ln 31, fs_rg (v2 + (M 31 ((i * 6) + h))), 3 < 5]) rfl (fs_exA 6 (o1 := [20 < fs_N ∧ fs_kd 20 = 1, fs_rg (i * 6)]) (L1 := [some (.inr (.ref 20)), some (.inl h), some (.inr (.ref 32)), some (.inl v2), some (.inl i)]) (st1 := [.inl (i * 6), .inr (.ref 31), .inl v2]) (M1 := M) (o2 := [fs_rg ((i * 6) + h), (31 < fs_N ∧ fs_kd 31 = 100) ∧ (0 : Int) ≤ ((i * 6) + h) ∧ ((i * 6) + h) < fs_ln 31, fs_rg (v2 + (M 31 ((i * 6) + h))), 3 < 5]) rfl rfl) (fs_oc fs_ob20 (fs_oc ⟨by omega, by omega⟩ (fs_oc ⟨by omega, by omega⟩ (fs_oc (fs_ar31 (by omega) (by omega)) (fs_oc ⟨by omega, by omega⟩ (fs_oc (by decide) trivial)))))) ?_
            refine fs_r_goto (L1 := [some (.inr (.ref 20)), some (.inl h), some (.inr (.ref 32)), some (.inl (v2 + (M 31 ((i * 6) + h)))), some (.inl (i + 1))]) (st1 := []) (M1 := M) (ob := [fs_rg (i + 1)]) rfl rfl (fs_oc ⟨by omega, by omega⟩ trivial) ?_
            exact ih50 ((v2 + (M 31 ((i * 6) + h)))) ((i + 1)) (by omega) (by
                 rw [fs_sum_s i1.1, v1, q8]
                 first
                   | (rw [if_neg (by omega)]; omega)
                   | (rw [if_pos (by omega)]; show _ = _ + (_ + M 31 (6 * i + h)); rw [← q4]; omega)) (by omega)
        exact loop50 (((M 20 1 - (0)) : Int) + 1).toNat (v) (0) (by omega) (by rw [v0, show i = M 20 0 by omega]; show _ = _ + _ + 0; rw [Int.add_zero]; rfl) (by omega)
      have q1 := hmo h i hh.1 hh.2 (by omega) (by omega)
      have q2 := mk_price_b (a := i) (n := M 33 i) hM (by omega) (hsd i (by omega) (by omega)).1
      have q3 := hp i (by omega) (by omega)
      have q4 : M 30 ((h * 4) + i) = M 30 (4 * h + i) := congrArg (M 30) (by omega)
      have q5 : 0 ≤ M 30 ((h * 4) + i) * M 26 i ∧ M 30 ((h * 4) + i) * M 26 i ≤ 60 * 200 := by rw [q4, q3]; exact ⟨Int.mul_nonneg q1.1 q2.1, Int.mul_le_mul q1.2 q2.2 q2.1 (by omega)⟩
      have q6 : sst M 32 i = M 33 i := sst_at ⟨by omega, by omega⟩
      refine fs_r_goto (L1 := [some (.inr (.ref 20)), some (.inl h), some (.inr (.ref 32)), some (.inl (v + ((M 30 ((h * 4) + i)) * (M 26 i)))), some (.inl (i + 1))]) (st1 := []) (M1 := M) (ob := [20 < fs_N ∧ fs_kd 20 = 1, fs_rg (h * 4), fs_rg ((h * 4) + i), (30 < fs_N ∧ fs_kd 30 = 100) ∧ (0 : Int) ≤ ((h * 4) + i) ∧ ((h * 4) + i) < fs_ln 30, 20 < fs_N ∧ fs_kd 20 = 1, (26 < fs_N ∧ fs_kd 26 = 100) ∧ (0 : Int) ≤ i ∧ i < fs_ln 26, fs_rg ((M 30 ((h * 4) + i)) * (M 26 i)), fs_rg (v + ((M 30 ((h * 4) + i)) * (M 26 i))), 3 < 5, fs_rg (i + 1)]) rfl (fs_exA 6 (o1 := [20 < fs_N ∧ fs_kd 20 = 1, fs_rg (h * 4)]) (L1 := [some (.inr (.ref 20)), some (.inl h), some (.inr (.ref 32)), some (.inl v), some (.inl i)]) (st1 := [.inl (h * 4), .inr (.ref 30), .inl v]) (M1 := M) (o2 := [fs_rg ((h * 4) + i), (30 < fs_N ∧ fs_kd 30 = 100) ∧ (0 : Int) ≤ ((h * 4) + i) ∧ ((h * 4) + i) < fs_ln 30, 20 < fs_N ∧ fs_kd 20 = 1, (26 < fs_N ∧ fs_kd 26 = 100) ∧ (0 : Int) ≤ i ∧ i < fs_ln 26, fs_rg ((M 30 ((h * 4) + i)) * (M 26 i)), fs_rg (v + ((M 30 ((h * 4) + i)) * (M 26 i))), 3 < 5, fs_rg (i + 1)]) rfl (fs_exA 6 (o1 := [fs_rg ((h * 4) + i), (30 < fs_N ∧ fs_kd 30 = 100) ∧ (0 : Int) ≤ ((h * 4) + i) ∧ ((h * 4) + i) < fs_ln 30, 20 < fs_N ∧ fs_kd 20 = 1]) (L1 := [some (.inr (.ref 20)), some (.inl h), some (.inr (.ref 32)), some (.inl v), some (.inl i)]) (st1 := [.inl i, .inr (.ref 26), .inl (M 30 ((h * 4) + i)), .inl v]) (M1 := M) (o2 := [(26 < fs_N ∧ fs_kd 26 = 100) ∧ (0 : Int) ≤ i ∧ i < fs_ln 26, fs_rg ((M 30 ((h * 4) + i)) * (M 26 i)), fs_rg (v + ((M 30 ((h * 4) + i)) * (M 26 i))), 3 < 5, fs_rg (i + 1)]) rfl rfl)) (fs_oc fs_ob20 (fs_oc ⟨by omega, by omega⟩ (fs_oc ⟨by omega, by omega⟩ (fs_oc (fs_ar30 (by omega) (by omega)) (fs_oc fs_ob20 (fs_oc (fs_ar26 (by omega) (by omega)) (fs_oc ⟨by omega, by omega⟩ (fs_oc ⟨by omega, by omega⟩ (fs_oc (by decide) (fs_oc ⟨by omega, by omega⟩ trivial)))))))))) ?_
      exact ih10 ((v + ((M 30 ((h * 4) + i)) * (M 26 i)))) ((i + 1)) (by omega) (by rw [fs_sum_s i0.1, v0, q6, ← q3]; show _ = M 27 h + (_ + M 30 (4 * h + i) * M 26 i); rw [← q4]; omega) (by omega)
  exact loop10 (((M 20 0 - (0)) : Int) + 1).toNat ((M 27 h)) (0) (by omega) (by show _ = M 27 h + 0; omega) (by omega)

theorem fs_c_dueOf {d : Nat} {M : fs_M} {Q : Option fs_V → fs_M → Prop} {h : Int} {w : Int}  (hM : mk_b M) (hh : 0 ≤ h ∧ h < M 20 1) (hw : -100000 ≤ w ∧ w ≤ 100000) (hq0 : Q (some (.inl (ec_due (mk M) h w))) M) : fs_W (d + 1) 40 0 [some (.inr (.ref 20)), some (.inl h), some (.inl w), none, none] [] M Q := by
  obtain ⟨⟨hA0, hA1⟩, ⟨hH0, hH1⟩, ⟨hf0, hf1⟩, hma, hmh, hmo, hml⟩ := id hM
  obtain ⟨x1, x2, x3, x4, x5⟩ := hmh h hh.1 hh.2
  have y2 : M 29 ((h * 5) + 2) = M 29 (5 * h + 2) := congrArg (M 29) (by omega)
  have y3 : M 29 ((h * 5) + 3) = M 29 (5 * h + 3) := congrArg (M 29) (by omega)
  have ed : ec_due (mk M) h w = if w < 0 then M 28 h else if M 29 (5 * h + 2) - w ≤ 0 then min (M 28 h) 0 else min (M 28 h) ((M 29 (5 * h + 2) - w + M 29 (5 * h + 3) - 1) / M 29 (5 * h + 3)) := rfl
  refine fs_r_if (a := w) (L1 := [some (.inr (.ref 20)), some (.inl h), some (.inl w), none, none]) (st1 := []) (M1 := M) (ob := []) rfl rfl trivial (fun (h1 : 0 ≤ w) => ?_) (fun (h1 : ¬ (0 ≤ w)) => ?_)
  · refine fs_r_if (a := ((M 29 ((h * 5) + 2)) - w)) (L1 := [some (.inr (.ref 20)), some (.inl h), some (.inl w), some (.inl ((M 29 ((h * 5) + 2)) - w)), none]) (st1 := []) (M1 := M) (ob := [20 < fs_N ∧ fs_kd 20 = 1, fs_rg (h * 5), fs_rg ((h * 5) + 2), (29 < fs_N ∧ fs_kd 29 = 100) ∧ (0 : Int) ≤ ((h * 5) + 2) ∧ ((h * 5) + 2) < fs_ln 29, fs_rg ((M 29 ((h * 5) + 2)) - w), 3 < 5]) rfl (fs_exA 6 (o1 := [20 < fs_N ∧ fs_kd 20 = 1, fs_rg (h * 5)]) (L1 := [some (.inr (.ref 20)), some (.inl h), some (.inl w), none, none]) (st1 := [.inl 2, .inl (h * 5), .inr (.ref 29)]) (M1 := M) (o2 := [fs_rg ((h * 5) + 2), (29 < fs_N ∧ fs_kd 29 = 100) ∧ (0 : Int) ≤ ((h * 5) + 2) ∧ ((h * 5) + 2) < fs_ln 29, fs_rg ((M 29 ((h * 5) + 2)) - w), 3 < 5]) rfl rfl) (fs_oc fs_ob20 (fs_oc ⟨by omega, by omega⟩ (fs_oc ⟨by omega, by omega⟩ (fs_oc (fs_ar29 (by omega) (by omega)) (fs_oc ⟨by omega, by omega⟩ (fs_oc (by decide) trivial)))))) (fun (h2 : 0 < ((M 29 ((h * 5) + 2)) - w)) => ?_) (fun (h2 : ¬ (0 < ((M 29 ((h * 5) + 2)) - w))) => ?_)
    · refine fs_r_nat (v := .inl (max 1 (M 29 ((h * 5) + 3)))) (sta := true) (idx := 109) (as := [.inl 1, .inl (M 29 ((h * 5) + 3))]) (rest := []) (L1 := [some (.inr (.ref 20)), some (.inl h), some (.inl w), some (.inl ((M 29 ((h * 5) + 2)) - w)), none]) (st1 := [.inl (M 29 ((h * 5) + 3)), .inl 1]) (M1 := M) (ob := [20 < fs_N ∧ fs_kd 20 = 1, fs_rg (h * 5), fs_rg ((h * 5) + 3), (29 < fs_N ∧ fs_kd 29 = 100) ∧ (0 : Int) ≤ ((h * 5) + 3) ∧ ((h * 5) + 3) < fs_ln 29]) rfl rfl (fs_exA 6 (o1 := [20 < fs_N ∧ fs_kd 20 = 1, fs_rg (h * 5)]) (L1 := [some (.inr (.ref 20)), some (.inl h), some (.inl w), some (.inl ((M 29 ((h * 5) + 2)) - w)), none]) (st1 := [.inl (h * 5), .inr (.ref 29), .inl 1]) (M1 := M) (o2 := [fs_rg ((h * 5) + 3), (29 < fs_N ∧ fs_kd 29 = 100) ∧ (0 : Int) ≤ ((h * 5) + 3) ∧ ((h * 5) + 3) < fs_ln 29]) rfl rfl) (fs_oc fs_ob20 (fs_oc ⟨by omega, by omega⟩ (fs_oc ⟨by omega, by omega⟩ (fs_oc (fs_ar29 (by omega) (by omega)) trivial)))) rfl rfl (Nat.le_of_ble_eq_true rfl) ⟨Or.inl (by decide), trivial⟩ (by decide) (rfl) ?_
      have ym : max 1 (M 29 ((h * 5) + 3)) = M 29 (5 * h + 3) := by omega
      refine fs_r_nat (v := .inl (min (M 28 h) (((((M 29 ((h * 5) + 2)) - w) + (max 1 (M 29 ((h * 5) + 3)))) - 1) / (max 1 (M 29 ((h * 5) + 3)))))) (sta := true) (idx := 104) (as := [.inl (M 28 h), .inl (((((M 29 ((h * 5) + 2)) - w) + (max 1 (M 29 ((h * 5) + 3)))) - 1) / (max 1 (M 29 ((h * 5) + 3))))]) (rest := []) (L1 := [some (.inr (.ref 20)), some (.inl h), some (.inl w), some (.inl ((M 29 ((h * 5) + 2)) - w)), some (.inl (max 1 (M 29 ((h * 5) + 3))))]) (st1 := [.inl (((((M 29 ((h * 5) + 2)) - w) + (max 1 (M 29 ((h * 5) + 3)))) - 1) / (max 1 (M 29 ((h * 5) + 3)))), .inl (M 28 h)]) (M1 := M) (ob := [4 < 5, 20 < fs_N ∧ fs_kd 20 = 1, (28 < fs_N ∧ fs_kd 28 = 100) ∧ (0 : Int) ≤ h ∧ h < fs_ln 28, fs_rg (((M 29 ((h * 5) + 2)) - w) + (max 1 (M 29 ((h * 5) + 3)))), fs_rg ((((M 29 ((h * 5) + 2)) - w) + (max 1 (M 29 ((h * 5) + 3)))) - 1), (0 : Int) ≤ ((((M 29 ((h * 5) + 2)) - w) + (max 1 (M 29 ((h * 5) + 3)))) - 1), (0 : Int) < (max 1 (M 29 ((h * 5) + 3)))]) rfl rfl (fs_exA 6 (o1 := [4 < 5, 20 < fs_N ∧ fs_kd 20 = 1, (28 < fs_N ∧ fs_kd 28 = 100) ∧ (0 : Int) ≤ h ∧ h < fs_ln 28]) (L1 := [some (.inr (.ref 20)), some (.inl h), some (.inl w), some (.inl ((M 29 ((h * 5) + 2)) - w)), some (.inl (max 1 (M 29 ((h * 5) + 3))))]) (st1 := [.inl ((M 29 ((h * 5) + 2)) - w), .inl (M 28 h)]) (M1 := M) (o2 := [fs_rg (((M 29 ((h * 5) + 2)) - w) + (max 1 (M 29 ((h * 5) + 3)))), fs_rg ((((M 29 ((h * 5) + 2)) - w) + (max 1 (M 29 ((h * 5) + 3)))) - 1), (0 : Int) ≤ ((((M 29 ((h * 5) + 2)) - w) + (max 1 (M 29 ((h * 5) + 3)))) - 1), (0 : Int) < (max 1 (M 29 ((h * 5) + 3)))]) rfl rfl) (fs_oc (by decide) (fs_oc fs_ob20 (fs_oc (fs_ar28 (by omega) (by omega)) (fs_oc ⟨by omega, by omega⟩ (fs_oc ⟨by omega, by omega⟩ (fs_oc (by omega) (fs_oc (by omega) trivial))))))) rfl rfl (Nat.le_of_ble_eq_true rfl) ⟨Or.inl (by decide), trivial⟩ (by decide) (rfl) ?_
      refine fs_r_iret (a := (min (M 28 h) (((((M 29 ((h * 5) + 2)) - w) + (max 1 (M 29 ((h * 5) + 3)))) - 1) / (max 1 (M 29 ((h * 5) + 3)))))) (L1 := [some (.inr (.ref 20)), some (.inl h), some (.inl w), some (.inl ((M 29 ((h * 5) + 2)) - w)), some (.inl (max 1 (M 29 ((h * 5) + 3))))]) (M1 := M) (ob := []) rfl rfl trivial (Or.inl rfl) ?_
      exact fs_qi (by rw [ed, if_neg (by omega), if_neg (by omega), ym, y2]) hq0
    refine fs_r_iret (a := 0) (L1 := [some (.inr (.ref 20)), some (.inl h), some (.inl w), some (.inl ((M 29 ((h * 5) + 2)) - w)), none]) (M1 := M) (ob := []) rfl rfl trivial (Or.inl rfl) ?_
    exact fs_qi (by rw [ed, if_neg (by omega), if_pos (by omega)]; omega) hq0
  refine fs_r_iret (a := (M 28 h)) (L1 := [some (.inr (.ref 20)), some (.inl h), some (.inl w), none, none]) (M1 := M) (ob := [20 < fs_N ∧ fs_kd 20 = 1, (28 < fs_N ∧ fs_kd 28 = 100) ∧ (0 : Int) ≤ h ∧ h < fs_ln 28]) rfl rfl (fs_oc fs_ob20 (fs_oc (fs_ar28 (by omega) (by omega)) trivial)) (Or.inl rfl) ?_
  exact fs_qi (by rw [ed, if_pos (by omega)]) hq0
