/-! The class: views of its memory -/
/-- the Book at b says what the row N says (places without a HOUSE, an item, may hold anything where nothing reads them) -/
def vw (b : Nat) (M : fs_M) (N : Int → Int) : Prop :=
  M b 0 = N 0 ∧ M b 1 = N 1 ∧ (∀ a, 0 ≤ a → a < 4 → M (b + 1) (a * 2 + 0) = N (2 + a) ∧ M (b + 1) (a * 2 + 1) = N (6 + a)) ∧
  (∀ h k, 0 ≤ h → h < 6 → 0 ≤ k → k < 5 → (h < N 1 ∨ k < 3) → M (b + 2) (h * 5 + k) = N (10 + 5 * h + k)) ∧
  (∀ h a, 0 ≤ h → h < 6 → 0 ≤ a → a < 4 → M (b + 3) (h * 4 + a) = N (40 + 4 * h + a)) ∧
  (∀ h o, 0 ≤ h → h < 6 → 0 ≤ o → o < 6 → M (b + 4) (h * 6 + o) = N (64 + 6 * h + o)) ∧
  (∀ s, 0 ≤ s → s < 3 → M (b + 5) s = N (100 + 13 * s)) ∧
  (∀ s p w, 0 ≤ s → s < 3 → 0 ≤ p → p < N (100 + 13 * s) → 0 ≤ w → w < 3 → M (b + 6) ((s * 4 + p) * 3 + w) = N (100 + 13 * s + 1 + 3 * p + w))
theorem vw5 {M : fs_M} {N : Int → Int} (h : vw 5 M N) : M 5 0 = N 0 ∧ M 5 1 = N 1 ∧ (∀ a, 0 ≤ a → a < 4 → M 6 (a * 2 + 0) = N (2 + a) ∧ M 6 (a * 2 + 1) = N (6 + a)) ∧
  (∀ h k, 0 ≤ h → h < 6 → 0 ≤ k → k < 5 → (h < N 1 ∨ k < 3) → M 7 (h * 5 + k) = N (10 + 5 * h + k)) ∧
  (∀ h a, 0 ≤ h → h < 6 → 0 ≤ a → a < 4 → M 8 (h * 4 + a) = N (40 + 4 * h + a)) ∧
  (∀ h o, 0 ≤ h → h < 6 → 0 ≤ o → o < 6 → M 9 (h * 6 + o) = N (64 + 6 * h + o)) ∧
  (∀ s, 0 ≤ s → s < 3 → M 10 s = N (100 + 13 * s)) ∧
  (∀ s p w, 0 ≤ s → s < 3 → 0 ≤ p → p < N (100 + 13 * s) → 0 ≤ w → w < 3 → M 11 ((s * 4 + p) * 3 + w) = N (100 + 13 * s + 1 + 3 * p + w)) := h
theorem vw5.of {M : fs_M} {N : Int → Int} (h : M 5 0 = N 0 ∧ M 5 1 = N 1 ∧ (∀ a, 0 ≤ a → a < 4 → M 6 (a * 2 + 0) = N (2 + a) ∧ M 6 (a * 2 + 1) = N (6 + a)) ∧
  (∀ h k, 0 ≤ h → h < 6 → 0 ≤ k → k < 5 → (h < N 1 ∨ k < 3) → M 7 (h * 5 + k) = N (10 + 5 * h + k)) ∧
  (∀ h a, 0 ≤ h → h < 6 → 0 ≤ a → a < 4 → M 8 (h * 4 + a) = N (40 + 4 * h + a)) ∧
  (∀ h o, 0 ≤ h → h < 6 → 0 ≤ o → o < 6 → M 9 (h * 6 + o) = N (64 + 6 * h + o)) ∧
  (∀ s, 0 ≤ s → s < 3 → M 10 s = N (100 + 13 * s)) ∧
  (∀ s p w, 0 ≤ s → s < 3 → 0 ≤ p → p < N (100 + 13 * s) → 0 ≤ w → w < 3 → M 11 ((s * 4 + p) * 3 + w) = N (100 + 13 * s + 1 + 3 * p + w))) : vw 5 M N := h
theorem vw.fr {b : Nat} {M M2 : fs_M} {N : Int → Int} (h : vw b M N) (f : ∀ r, b ≤ r → r ≤ b + 6 → M2 r = M r) : vw b M2 N := by
  unfold vw at *
  rw [f b (by omega) (by omega), f (b + 1) (by omega) (by omega), f (b + 2) (by omega) (by omega), f (b + 3) (by omega) (by omega), f (b + 4) (by omega) (by omega), f (b + 5) (by omega) (by omega), f (b + 6) (by omega) (by omega)]
  exact h
/-- a row of n cells copied; made 0 -/
def fs_cp (M : fs_M) (f t : Nat) (n : Int) : fs_M := fun r i => if r = t ∧ 0 ≤ i ∧ i < n then M f i else M r i
def fs_cl (M : fs_M) (t : Nat) (n : Int) : fs_M := fun r i => if r = t ∧ 0 ≤ i ∧ i < n then 0 else M r i
theorem fs_cp_o {M : fs_M} {f t r : Nat} {n : Int} (h : r ≠ t) : fs_cp M f t n r = M r := by
  funext i
  unfold fs_cp
  rw [if_neg (fun z => h z.1)]
theorem fs_cl_o {M : fs_M} {t r : Nat} {n : Int} (h : r ≠ t) : fs_cl M t n r = M r := by
  funext i
  unfold fs_cl
  rw [if_neg (fun z => h z.1)]
theorem fs_cp_i {M : fs_M} {f t : Nat} {n i : Int} (h0 : 0 ≤ i) (h1 : i < n) : fs_cp M f t n t i = M f i := by
  unfold fs_cp
  rw [if_pos ⟨rfl, h0, h1⟩]
theorem fs_cl_i {M : fs_M} {t : Nat} {n i : Int} (h0 : 0 ≤ i) (h1 : i < n) : fs_cl M t n t i = 0 := by
  unfold fs_cl
  rw [if_pos ⟨rfl, h0, h1⟩]
theorem fs_cp_0 {M : fs_M} {f t : Nat} : fs_cp M f t 0 = M := by
  funext r i
  unfold fs_cp
  rw [if_neg (by omega)]
theorem fs_cl_0 {M : fs_M} {t : Nat} : fs_cl M t 0 = M := by
  funext r i
  unfold fs_cl
  rw [if_neg (by omega)]
theorem fs_cp_s {M : fs_M} {f t : Nat} {n : Int} (h : f ≠ t) (hn : 0 ≤ n) : fs_up (fs_cp M f t n) t n (fs_cp M f t n f n) = fs_cp M f t (n + 1) := by
  funext r i
  rw [fs_cp_o h]
  unfold fs_up fs_cp
  split
  · next z => rw [if_pos ⟨z.1, by omega, by omega⟩, z.2]
  · next z => split <;> split <;> first | rfl | (exfalso; omega)
theorem fs_cl_s {M : fs_M} {t : Nat} {n : Int} (hn : 0 ≤ n) : fs_up (fs_cl M t n) t n 0 = fs_cl M t (n + 1) := by
  funext r i
  unfold fs_up fs_cl
  split
  · next z => rw [if_pos ⟨z.1, by omega, by omega⟩]
  · next z => split <;> split <;> first | rfl | (exfalso; omega)

theorem fs_c_clear {d : Nat} {M : fs_M} {Q : Option fs_V → fs_M → Prop} {r : Nat} {n : Int} (hr : fs_ra r n) (hn : 0 ≤ n ∧ n ≤ 2000) (hq0 : Q none (fs_cl M r n)) : fs_W (d) 161 0 [some (.inr (.ref r)), none] [] M Q := by
  have el := hr.2.2
  refine fs_r_nop (L1 := [some (.inr (.ref r)), some (.inl 0)]) (st1 := []) (M1 := M) (ob := [1 < 2]) rfl rfl (fs_oc (by decide) trivial) ?_
  have loop2 : ∀ (n2 : Nat) (i : Int) (M2 : fs_M), (0 ≤ i ∧ i ≤ n) → (M2 = fs_cl M r i) → n - i < (n2 : Int) → fs_W (d) 161 2 [some (.inr (.ref r)), some (.inl i)] [] M2 Q := by
    intro n2
    induction n2 with
    | zero =>
      intro i M2 i0 m0 hm2
      exfalso
      omega
    | succ n2 ih2 =>
      intro i M2 i0 m0 hm2
      refine fs_r_icmp (a := i) (y := (fs_ln r)) (L1 := [some (.inr (.ref r)), some (.inl i)]) (st1 := []) (M1 := M2) (ob := [r < fs_N ∧ fs_kd r = 100]) rfl rfl (fs_oc ⟨hr.1, hr.2.1⟩ trivial) (fun (h1 : (fs_ln r) ≤ i) => ?_) (fun (h1 : ¬ ((fs_ln r) ≤ i)) => ?_)
      · refine fs_r_ret (L1 := [some (.inr (.ref r)), some (.inl i)]) (M1 := M2) (ob := []) rfl rfl trivial ?_
        exact fs_qv (by rw [m0, show i = n by omega]) hq0
      refine fs_r_goto (L1 := [some (.inr (.ref r)), some (.inl (i + 1))]) (st1 := []) (M1 := (fs_up M2 r i 0)) (ob := [(r < fs_N ∧ fs_kd r = 100) ∧ (0 : Int) ≤ i ∧ i < fs_ln r, fs_rg (i + 1)]) rfl rfl (fs_oc (fs_raa hr (by omega) (by omega)) (fs_oc ⟨by omega, by omega⟩ trivial)) ?_
      exact ih2 ((i + 1)) (fs_up M2 r i 0) (by omega) (by rw [m0]; exact fs_cl_s i0.1) (by omega)
  exact loop2 (((n - (0)) : Int) + 1).toNat (0) M (by omega) (fs_cl_0.symm) (by omega)

theorem fs_c_copyAll {d : Nat} {M : fs_M} {Q : Option fs_V → fs_M → Prop} {f : Nat} {t : Nat} {n : Int} (hf : fs_ra f n) (ht : fs_ra t n) (hne : f ≠ t) (hn : 0 ≤ n ∧ n ≤ 2000) (hq0 : Q none (fs_cp M f t n)) : fs_W (d + 1) 162 0 [some (.inr (.ref f)), some (.inr (.ref t)), none, none] [] M Q := by
  have ef := hf.2.2
  have et := ht.2.2
  refine fs_r_nat (v := .inl (min (fs_ln f) (fs_ln t))) (sta := true) (idx := 166) (as := [.inl (fs_ln f), .inl (fs_ln t)]) (rest := []) (L1 := [some (.inr (.ref f)), some (.inr (.ref t)), none, none]) (st1 := [.inl (fs_ln t), .inl (fs_ln f)]) (M1 := M) (ob := [f < fs_N ∧ fs_kd f = 100, t < fs_N ∧ fs_kd t = 100]) rfl rfl rfl (fs_oc ⟨hf.1, hf.2.1⟩ (fs_oc ⟨ht.1, ht.2.1⟩ trivial)) rfl rfl (Nat.le_of_ble_eq_true rfl) ⟨Or.inl (by decide), trivial⟩ (by decide) (rfl) ?_
  refine fs_r_nop (L1 := [some (.inr (.ref f)), some (.inr (.ref t)), some (.inl (min (fs_ln f) (fs_ln t))), some (.inl 0)]) (st1 := []) (M1 := M) (ob := [2 < 4, 3 < 4]) rfl rfl (fs_oc (by decide) (fs_oc (by decide) trivial)) ?_
  have loop10 : ∀ (n10 : Nat) (k : Int) (i : Int) (M2 : fs_M), (0 ≤ i ∧ i ≤ n) → (k = n) → (M2 = fs_cp M f t i) → n - i < (n10 : Int) → fs_W (d + 1) 162 10 [some (.inr (.ref f)), some (.inr (.ref t)), some (.inl k), some (.inl i)] [] M2 Q := by
    intro n10
    induction n10 with
    | zero =>
      intro k i M2 i0 k0 m0 hm10
      exfalso
      omega
    | succ n10 ih10 =>
      intro k i M2 i0 k0 m0 hm10
      refine fs_r_icmp (a := i) (y := k) (L1 := [some (.inr (.ref f)), some (.inr (.ref t)), some (.inl k), some (.inl i)]) (st1 := []) (M1 := M2) (ob := []) rfl rfl trivial (fun (h1 : k ≤ i) => ?_) (fun (h1 : ¬ (k ≤ i)) => ?_)
      · refine fs_r_ret (L1 := [some (.inr (.ref f)), some (.inr (.ref t)), some (.inl k), some (.inl i)]) (M1 := M2) (ob := []) rfl rfl trivial ?_
        exact fs_qv (by rw [m0, show i = n by omega]) hq0
      refine fs_r_goto (L1 := [some (.inr (.ref f)), some (.inr (.ref t)), some (.inl k), some (.inl (i + 1))]) (st1 := []) (M1 := (fs_up M2 t i (M2 f i))) (ob := [(f < fs_N ∧ fs_kd f = 100) ∧ (0 : Int) ≤ i ∧ i < fs_ln f, (t < fs_N ∧ fs_kd t = 100) ∧ (0 : Int) ≤ i ∧ i < fs_ln t, fs_rg (i + 1)]) rfl rfl (fs_oc (fs_raa hf (by omega) (by omega)) (fs_oc (fs_raa ht (by omega) (by omega)) (fs_oc ⟨by omega, by omega⟩ trivial))) ?_
      exact ih10 (k) ((i + 1)) (fs_up M2 t i (M2 f i)) (by omega) (by omega) (by rw [m0]; exact fs_cp_s hne i0.1) (by omega)
  exact loop10 (((n - (0)) : Int) + 1).toNat ((min (fs_ln f) (fs_ln t))) (0) M (by omega) (by omega) (fs_cp_0.symm) (by omega)

theorem fs_c_fact {d : Nat} {M : fs_M} {Q : Option fs_V → fs_M → Prop} {b : Nat} {h : Int} {k : Int}  (hb : fs_bk b) (hh : 0 ≤ h ∧ h < 6) (hk : 0 ≤ k ∧ k < 5) (hq0 : Q (some (.inl (M (b + 2) ((h * 5) + k)))) M) : fs_W (d) 10 0 [some (.inr (.ref b)), some (.inl h), some (.inl k)] [] M Q := by
  refine fs_r_iret (a := (M (b + 2) ((h * 5) + k))) (L1 := [some (.inr (.ref b)), some (.inl h), some (.inl k)]) (M1 := M) (ob := [b < fs_N ∧ fs_kd b = 0, fs_rg (h * 5), fs_rg ((h * 5) + k), ((b + 2) < fs_N ∧ fs_kd (b + 2) = 100) ∧ (0 : Int) ≤ ((h * 5) + k) ∧ ((h * 5) + k) < fs_ln (b + 2)]) rfl (fs_exA 6 (o1 := [b < fs_N ∧ fs_kd b = 0, fs_rg (h * 5)]) (L1 := [some (.inr (.ref b)), some (.inl h), some (.inl k)]) (st1 := [.inl k, .inl (h * 5), .inr (.ref (b + 2))]) (M1 := M) (o2 := [fs_rg ((h * 5) + k), ((b + 2) < fs_N ∧ fs_kd (b + 2) = 100) ∧ (0 : Int) ≤ ((h * 5) + k) ∧ ((h * 5) + k) < fs_ln (b + 2)]) rfl rfl) (fs_oc (fs_bk0 hb) (fs_oc ⟨by omega, by omega⟩ (fs_oc ⟨by omega, by omega⟩ (fs_oc (fs_bk2 hb (by omega) (by omega)) trivial)))) (Or.inl rfl) ?_
  exact fs_qi (by omega) hq0

theorem fs_c_holdingOf {d : Nat} {M : fs_M} {Q : Option fs_V → fs_M → Prop} {b : Nat} {h : Int} {a : Int}  (hb : fs_bk b) (hh : 0 ≤ h ∧ h < 6) (hk : 0 ≤ a ∧ a < 4) (hq0 : Q (some (.inl (M (b + 3) ((h * 4) + a)))) M) : fs_W (d) 12 0 [some (.inr (.ref b)), some (.inl h), some (.inl a)] [] M Q := by
  refine fs_r_iret (a := (M (b + 3) ((h * 4) + a))) (L1 := [some (.inr (.ref b)), some (.inl h), some (.inl a)]) (M1 := M) (ob := [b < fs_N ∧ fs_kd b = 0, fs_rg (h * 4), fs_rg ((h * 4) + a), ((b + 3) < fs_N ∧ fs_kd (b + 3) = 100) ∧ (0 : Int) ≤ ((h * 4) + a) ∧ ((h * 4) + a) < fs_ln (b + 3)]) rfl (fs_exA 6 (o1 := [b < fs_N ∧ fs_kd b = 0, fs_rg (h * 4)]) (L1 := [some (.inr (.ref b)), some (.inl h), some (.inl a)]) (st1 := [.inl a, .inl (h * 4), .inr (.ref (b + 3))]) (M1 := M) (o2 := [fs_rg ((h * 4) + a), ((b + 3) < fs_N ∧ fs_kd (b + 3) = 100) ∧ (0 : Int) ≤ ((h * 4) + a) ∧ ((h * 4) + a) < fs_ln (b + 3)]) rfl rfl) (fs_oc (fs_bk0 hb) (fs_oc ⟨by omega, by omega⟩ (fs_oc ⟨by omega, by omega⟩ (fs_oc (fs_bk3 hb (by omega) (by omega)) trivial)))) (Or.inl rfl) ?_
  exact fs_qi (by omega) hq0

theorem fs_c_loanOf {d : Nat} {M : fs_M} {Q : Option fs_V → fs_M → Prop} {b : Nat} {h : Int} {o : Int}  (hb : fs_bk b) (hh : 0 ≤ h ∧ h < 6) (hk : 0 ≤ o ∧ o < 6) (hq0 : Q (some (.inl (M (b + 4) ((h * 6) + o)))) M) : fs_W (d) 14 0 [some (.inr (.ref b)), some (.inl h), some (.inl o)] [] M Q := by
  refine fs_r_iret (a := (M (b + 4) ((h * 6) + o))) (L1 := [some (.inr (.ref b)), some (.inl h), some (.inl o)]) (M1 := M) (ob := [b < fs_N ∧ fs_kd b = 0, fs_rg (h * 6), fs_rg ((h * 6) + o), ((b + 4) < fs_N ∧ fs_kd (b + 4) = 100) ∧ (0 : Int) ≤ ((h * 6) + o) ∧ ((h * 6) + o) < fs_ln (b + 4)]) rfl (fs_exA 6 (o1 := [b < fs_N ∧ fs_kd b = 0, fs_rg (h * 6)]) (L1 := [some (.inr (.ref b)), some (.inl h), some (.inl o)]) (st1 := [.inl o, .inl (h * 6), .inr (.ref (b + 4))]) (M1 := M) (o2 := [fs_rg ((h * 6) + o), ((b + 4) < fs_N ∧ fs_kd (b + 4) = 100) ∧ (0 : Int) ≤ ((h * 6) + o) ∧ ((h * 6) + o) < fs_ln (b + 4)]) rfl rfl) (fs_oc (fs_bk0 hb) (fs_oc ⟨by omega, by omega⟩ (fs_oc ⟨by omega, by omega⟩ (fs_oc (fs_bk4 hb (by omega) (by omega)) trivial)))) (Or.inl rfl) ?_
  exact fs_qi (by omega) hq0

theorem fs_c_setFact {d : Nat} {M : fs_M} {Q : Option fs_V → fs_M → Prop} {b : Nat} {h : Int} {k : Int} {v : Int}  (hb : fs_bk b) (hh : 0 ≤ h ∧ h < 6) (hk : 0 ≤ k ∧ k < 5) (hq0 : Q none (fs_up M (b + 2) ((h * 5) + k) v)) : fs_W (d) 11 0 [some (.inr (.ref b)), some (.inl h), some (.inl k), some (.inl v)] [] M Q := by
  refine fs_r_ret (L1 := [some (.inr (.ref b)), some (.inl h), some (.inl k), some (.inl v)]) (M1 := (fs_up M (b + 2) ((h * 5) + k) v)) (ob := [b < fs_N ∧ fs_kd b = 0, fs_rg (h * 5), fs_rg ((h * 5) + k), ((b + 2) < fs_N ∧ fs_kd (b + 2) = 100) ∧ (0 : Int) ≤ ((h * 5) + k) ∧ ((h * 5) + k) < fs_ln (b + 2)]) rfl (fs_exA 6 (o1 := [b < fs_N ∧ fs_kd b = 0, fs_rg (h * 5)]) (L1 := [some (.inr (.ref b)), some (.inl h), some (.inl k), some (.inl v)]) (st1 := [.inl k, .inl (h * 5), .inr (.ref (b + 2))]) (M1 := M) (o2 := [fs_rg ((h * 5) + k), ((b + 2) < fs_N ∧ fs_kd (b + 2) = 100) ∧ (0 : Int) ≤ ((h * 5) + k) ∧ ((h * 5) + k) < fs_ln (b + 2)]) rfl rfl) (fs_oc (fs_bk0 hb) (fs_oc ⟨by omega, by omega⟩ (fs_oc ⟨by omega, by omega⟩ (fs_oc (fs_bk2 hb (by omega) (by omega)) trivial)))) ?_
  exact hq0

theorem fs_c_setHolding {d : Nat} {M : fs_M} {Q : Option fs_V → fs_M → Prop} {b : Nat} {h : Int} {a : Int} {v : Int}  (hb : fs_bk b) (hh : 0 ≤ h ∧ h < 6) (hk : 0 ≤ a ∧ a < 4) (hq0 : Q none (fs_up M (b + 3) ((h * 4) + a) v)) : fs_W (d) 13 0 [some (.inr (.ref b)), some (.inl h), some (.inl a), some (.inl v)] [] M Q := by
  refine fs_r_ret (L1 := [some (.inr (.ref b)), some (.inl h), some (.inl a), some (.inl v)]) (M1 := (fs_up M (b + 3) ((h * 4) + a) v)) (ob := [b < fs_N ∧ fs_kd b = 0, fs_rg (h * 4), fs_rg ((h * 4) + a), ((b + 3) < fs_N ∧ fs_kd (b + 3) = 100) ∧ (0 : Int) ≤ ((h * 4) + a) ∧ ((h * 4) + a) < fs_ln (b + 3)]) rfl (fs_exA 6 (o1 := [b < fs_N ∧ fs_kd b = 0, fs_rg (h * 4)]) (L1 := [some (.inr (.ref b)), some (.inl h), some (.inl a), some (.inl v)]) (st1 := [.inl a, .inl (h * 4), .inr (.ref (b + 3))]) (M1 := M) (o2 := [fs_rg ((h * 4) + a), ((b + 3) < fs_N ∧ fs_kd (b + 3) = 100) ∧ (0 : Int) ≤ ((h * 4) + a) ∧ ((h * 4) + a) < fs_ln (b + 3)]) rfl rfl) (fs_oc (fs_bk0 hb) (fs_oc ⟨by omega, by omega⟩ (fs_oc ⟨by omega, by omega⟩ (fs_oc (fs_bk3 hb (by omega) (by omega)) trivial)))) ?_
  exact hq0

theorem fs_c_setLoan {d : Nat} {M : fs_M} {Q : Option fs_V → fs_M → Prop} {b : Nat} {h : Int} {o : Int} {v : Int}  (hb : fs_bk b) (hh : 0 ≤ h ∧ h < 6) (hk : 0 ≤ o ∧ o < 6) (hq0 : Q none (fs_up M (b + 4) ((h * 6) + o) v)) : fs_W (d) 15 0 [some (.inr (.ref b)), some (.inl h), some (.inl o), some (.inl v)] [] M Q := by
  refine fs_r_ret (L1 := [some (.inr (.ref b)), some (.inl h), some (.inl o), some (.inl v)]) (M1 := (fs_up M (b + 4) ((h * 6) + o) v)) (ob := [b < fs_N ∧ fs_kd b = 0, fs_rg (h * 6), fs_rg ((h * 6) + o), ((b + 4) < fs_N ∧ fs_kd (b + 4) = 100) ∧ (0 : Int) ≤ ((h * 6) + o) ∧ ((h * 6) + o) < fs_ln (b + 4)]) rfl (fs_exA 6 (o1 := [b < fs_N ∧ fs_kd b = 0, fs_rg (h * 6)]) (L1 := [some (.inr (.ref b)), some (.inl h), some (.inl o), some (.inl v)]) (st1 := [.inl o, .inl (h * 6), .inr (.ref (b + 4))]) (M1 := M) (o2 := [fs_rg ((h * 6) + o), ((b + 4) < fs_N ∧ fs_kd (b + 4) = 100) ∧ (0 : Int) ≤ ((h * 6) + o) ∧ ((h * 6) + o) < fs_ln (b + 4)]) rfl rfl) (fs_oc (fs_bk0 hb) (fs_oc ⟨by omega, by omega⟩ (fs_oc ⟨by omega, by omega⟩ (fs_oc (fs_bk4 hb (by omega) (by omega)) trivial)))) ?_
  exact hq0

theorem fs_c_baseOf {d : Nat} {M : fs_M} {Q : Option fs_V → fs_M → Prop} {b : Nat} {a : Int}  (hb : fs_bk b) (ha : 0 ≤ a ∧ a < 4) (hq0 : Q (some (.inl (M (b + 1) ((a * 2) + 0)))) M) : fs_W (d) 7 0 [some (.inr (.ref b)), some (.inl a)] [] M Q := by
  refine fs_r_iret (a := (M (b + 1) ((a * 2) + 0))) (L1 := [some (.inr (.ref b)), some (.inl a)]) (M1 := M) (ob := [b < fs_N ∧ fs_kd b = 0, fs_rg (a * 2), fs_rg ((a * 2) + 0), ((b + 1) < fs_N ∧ fs_kd (b + 1) = 100) ∧ (0 : Int) ≤ ((a * 2) + 0) ∧ ((a * 2) + 0) < fs_ln (b + 1)]) rfl (fs_exA 6 (o1 := [b < fs_N ∧ fs_kd b = 0, fs_rg (a * 2)]) (L1 := [some (.inr (.ref b)), some (.inl a)]) (st1 := [.inl 0, .inl (a * 2), .inr (.ref (b + 1))]) (M1 := M) (o2 := [fs_rg ((a * 2) + 0), ((b + 1) < fs_N ∧ fs_kd (b + 1) = 100) ∧ (0 : Int) ≤ ((a * 2) + 0) ∧ ((a * 2) + 0) < fs_ln (b + 1)]) rfl rfl) (fs_oc (fs_bk0 hb) (fs_oc ⟨by omega, by omega⟩ (fs_oc ⟨by omega, by omega⟩ (fs_oc (fs_bk1 hb (by omega) (by omega)) trivial)))) (Or.inl rfl) ?_
  exact fs_qi (by omega) hq0

theorem fs_c_slopeOf {d : Nat} {M : fs_M} {Q : Option fs_V → fs_M → Prop} {b : Nat} {a : Int}  (hb : fs_bk b) (ha : 0 ≤ a ∧ a < 4) (hq0 : Q (some (.inl (M (b + 1) ((a * 2) + 1)))) M) : fs_W (d) 9 0 [some (.inr (.ref b)), some (.inl a)] [] M Q := by
  refine fs_r_iret (a := (M (b + 1) ((a * 2) + 1))) (L1 := [some (.inr (.ref b)), some (.inl a)]) (M1 := M) (ob := [b < fs_N ∧ fs_kd b = 0, fs_rg (a * 2), fs_rg ((a * 2) + 1), ((b + 1) < fs_N ∧ fs_kd (b + 1) = 100) ∧ (0 : Int) ≤ ((a * 2) + 1) ∧ ((a * 2) + 1) < fs_ln (b + 1)]) rfl (fs_exA 6 (o1 := [b < fs_N ∧ fs_kd b = 0, fs_rg (a * 2)]) (L1 := [some (.inr (.ref b)), some (.inl a)]) (st1 := [.inl 1, .inl (a * 2), .inr (.ref (b + 1))]) (M1 := M) (o2 := [fs_rg ((a * 2) + 1), ((b + 1) < fs_N ∧ fs_kd (b + 1) = 100) ∧ (0 : Int) ≤ ((a * 2) + 1) ∧ ((a * 2) + 1) < fs_ln (b + 1)]) rfl rfl) (fs_oc (fs_bk0 hb) (fs_oc ⟨by omega, by omega⟩ (fs_oc ⟨by omega, by omega⟩ (fs_oc (fs_bk1 hb (by omega) (by omega)) trivial)))) (Or.inl rfl) ?_
  exact fs_qi (by omega) hq0

theorem fs_c_setBase {d : Nat} {M : fs_M} {Q : Option fs_V → fs_M → Prop} {b : Nat} {a : Int} {v : Int}  (hb : fs_bk b) (ha : 0 ≤ a ∧ a < 4) (hq0 : Q none (fs_up M (b + 1) ((a * 2) + 0) v)) : fs_W (d) 8 0 [some (.inr (.ref b)), some (.inl a), some (.inl v)] [] M Q := by
  refine fs_r_ret (L1 := [some (.inr (.ref b)), some (.inl a), some (.inl v)]) (M1 := (fs_up M (b + 1) ((a * 2) + 0) v)) (ob := [b < fs_N ∧ fs_kd b = 0, fs_rg (a * 2), fs_rg ((a * 2) + 0), ((b + 1) < fs_N ∧ fs_kd (b + 1) = 100) ∧ (0 : Int) ≤ ((a * 2) + 0) ∧ ((a * 2) + 0) < fs_ln (b + 1)]) rfl (fs_exA 6 (o1 := [b < fs_N ∧ fs_kd b = 0, fs_rg (a * 2)]) (L1 := [some (.inr (.ref b)), some (.inl a), some (.inl v)]) (st1 := [.inl 0, .inl (a * 2), .inr (.ref (b + 1))]) (M1 := M) (o2 := [fs_rg ((a * 2) + 0), ((b + 1) < fs_N ∧ fs_kd (b + 1) = 100) ∧ (0 : Int) ≤ ((a * 2) + 0) ∧ ((a * 2) + 0) < fs_ln (b + 1)]) rfl rfl) (fs_oc (fs_bk0 hb) (fs_oc ⟨by omega, by omega⟩ (fs_oc ⟨by omega, by omega⟩ (fs_oc (fs_bk1 hb (by omega) (by omega)) trivial)))) ?_
  exact hq0

theorem fs_c_item {d : Nat} {M : fs_M} {Q : Option fs_V → fs_M → Prop} {b : Nat} {s : Int} {p : Int} {w : Int}  (hb : fs_bk b) (hs : 0 ≤ s ∧ s < 3) (hp : 0 ≤ p ∧ p < 4) (hw : 0 ≤ w ∧ w < 3) (hq0 : Q (some (.inl (M (b + 6) ((((s * 4) + p) * 3) + w)))) M) : fs_W (d) 16 0 [some (.inr (.ref b)), some (.inl s), some (.inl p), some (.inl w)] [] M Q := by
  refine fs_r_iret (a := (M (b + 6) ((((s * 4) + p) * 3) + w))) (L1 := [some (.inr (.ref b)), some (.inl s), some (.inl p), some (.inl w)]) (M1 := M) (ob := [b < fs_N ∧ fs_kd b = 0, fs_rg (s * 4), fs_rg ((s * 4) + p), fs_rg (((s * 4) + p) * 3), fs_rg ((((s * 4) + p) * 3) + w), ((b + 6) < fs_N ∧ fs_kd (b + 6) = 100) ∧ (0 : Int) ≤ ((((s * 4) + p) * 3) + w) ∧ ((((s * 4) + p) * 3) + w) < fs_ln (b + 6)]) rfl (fs_exA 6 (o1 := [b < fs_N ∧ fs_kd b = 0, fs_rg (s * 4)]) (L1 := [some (.inr (.ref b)), some (.inl s), some (.inl p), some (.inl w)]) (st1 := [.inl p, .inl (s * 4), .inr (.ref (b + 6))]) (M1 := M) (o2 := [fs_rg ((s * 4) + p), fs_rg (((s * 4) + p) * 3), fs_rg ((((s * 4) + p) * 3) + w), ((b + 6) < fs_N ∧ fs_kd (b + 6) = 100) ∧ (0 : Int) ≤ ((((s * 4) + p) * 3) + w) ∧ ((((s * 4) + p) * 3) + w) < fs_ln (b + 6)]) rfl rfl) (fs_oc (fs_bk0 hb) (fs_oc ⟨by omega, by omega⟩ (fs_oc ⟨by omega, by omega⟩ (fs_oc ⟨by omega, by omega⟩ (fs_oc ⟨by omega, by omega⟩ (fs_oc (fs_bk6 hb (by omega) (by omega)) trivial)))))) (Or.inl rfl) ?_
  exact fs_qi (by omega) hq0
