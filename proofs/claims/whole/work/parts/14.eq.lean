/-! Two economies that say the same where it counts have the same states -/
def ec_calm (E : Nat → Int → Int) : Int → Int := fun i => if i = 4 then E 0 2 else 0
def ec_panic (E : Nat → Int → Int) : Int → Int := fun i => if i = 4 then fs_shl 1 (E 0 1) - 1 else if 0 ≤ i ∧ i < E 0 0 then min (E 5 i) (E 3 i) else 0
def ec_ok (E : Nat → Int → Int) (S : Int → Int) : Prop := ∃ k : Nat, k ≤ 2000 ∧ ec_first E S k
noncomputable def ec_k (E : Nat → Int → Int) (S : Int → Int) : Nat := @dite _ (ec_ok E S) (Classical.propDecidable _) (fun h => Classical.choose h) (fun _ => 0)
noncomputable def ec_fix (E : Nat → Int → Int) (S : Int → Int) : Int → Int := ec_it E S (ec_k E S)
theorem ec_k_spec {E : Nat → Int → Int} {S : Int → Int} (h : ec_ok E S) : ec_k E S ≤ 2000 ∧ ec_first E S (ec_k E S) := by
  unfold ec_k
  rw [dif_pos h]
  exact Classical.choose_spec h
/-- the state that is asked for: 0 calm, 1 least, 2 greatest, 3 panic -/
noncomputable def ec_std (E : Nat → Int → Int) (w : Int) : Int → Int := if w = 0 then ec_calm E else if w = 1 then ec_fix E (ec_calm E) else if w = 2 then ec_fix E (ec_panic E) else ec_panic E
def fs_pop (f : Int) : Int := fs_sum 6 (fun k => fs_bt f k)
def ec_tell (E : Nat → Int → Int) (S : Int → Int) (w : Int) : Int := if w < 4 then S w else if w = 4 then S 4 else if w = 5 then ec_lost E S else if w = 6 then fs_pop (S 4) else S 0 + S 1 + S 2 + S 3
def ec_eq (E F : Nat → Int → Int) : Prop :=
  E 0 0 = F 0 0 ∧ E 0 1 = F 0 1 ∧ E 0 2 = F 0 2 ∧ (∀ a, 0 ≤ a → a < E 0 0 → E 1 a = F 1 a ∧ E 2 a = F 2 a ∧ E 3 a = F 3 a ∧ E 4 a = F 4 a ∧ E 5 a = F 5 a) ∧
  (∀ h, 0 ≤ h → h < E 0 1 → E 7 h = F 7 h ∧ E 8 h = F 8 h ∧ E 9 (5 * h + 2) = F 9 (5 * h + 2) ∧ E 9 (5 * h + 3) = F 9 (5 * h + 3) ∧ E 9 (5 * h + 4) = F 9 (5 * h + 4)) ∧
  (∀ h a, 0 ≤ h → h < E 0 1 → 0 ≤ a → a < E 0 0 → E 10 (4 * h + a) = F 10 (4 * h + a)) ∧ (∀ o h, 0 ≤ o → o < E 0 1 → 0 ≤ h → h < E 0 1 → E 11 (6 * o + h) = F 11 (6 * o + h))
theorem ec_eq.rf {E : Nat → Int → Int} : ec_eq E E := ⟨rfl, rfl, rfl, fun _ _ _ => ⟨rfl, rfl, rfl, rfl, rfl⟩, fun _ _ _ => ⟨rfl, rfl, rfl, rfl, rfl⟩, fun _ _ _ _ _ _ => rfl, fun _ _ _ _ _ _ => rfl⟩
theorem ec_eq.sy {E F : Nat → Int → Int} (h : ec_eq E F) : ec_eq F E := by
  obtain ⟨h1, h2, h3, h4, h5, h6, h7⟩ := h
  refine ⟨h1.symm, h2.symm, h3.symm, fun a p q => ?_, fun a p q => ?_, fun a b p q r s => ?_, fun a b p q r s => ?_⟩
  · obtain ⟨x1, x2, x3, x4, x5⟩ := h4 a p (by omega)
    exact ⟨x1.symm, x2.symm, x3.symm, x4.symm, x5.symm⟩
  · obtain ⟨x1, x2, x3, x4, x5⟩ := h5 a p (by omega)
    exact ⟨x1.symm, x2.symm, x3.symm, x4.symm, x5.symm⟩
  · exact (h6 a b p (by omega) r (by omega)).symm
  · exact (h7 a b p (by omega) r (by omega)).symm
theorem ec_eq.tr {E F G : Nat → Int → Int} (h : ec_eq E F) (k : ec_eq F G) : ec_eq E G := by
  obtain ⟨h1, h2, h3, h4, h5, h6, h7⟩ := h
  obtain ⟨k1, k2, k3, k4, k5, k6, k7⟩ := k
  refine ⟨h1.trans k1, h2.trans k2, h3.trans k3, fun a p q => ?_, fun a p q => ?_, fun a b p q r s => ?_, fun a b p q r s => ?_⟩
  · obtain ⟨x1, x2, x3, x4, x5⟩ := h4 a p q
    obtain ⟨y1, y2, y3, y4, y5⟩ := k4 a p (by omega)
    exact ⟨x1.trans y1, x2.trans y2, x3.trans y3, x4.trans y4, x5.trans y5⟩
  · obtain ⟨x1, x2, x3, x4, x5⟩ := h5 a p q
    obtain ⟨y1, y2, y3, y4, y5⟩ := k5 a p (by omega)
    exact ⟨x1.trans y1, x2.trans y2, x3.trans y3, x4.trans y4, x5.trans y5⟩
  · exact (h6 a b p q r s).trans (k6 a b p (by omega) r (by omega))
  · exact (h7 a b p q r s).trans (k7 a b p (by omega) r (by omega))
theorem ec_eq.price {E F : Nat → Int → Int} (h : ec_eq E F) {a n : Int} (h0 : 0 ≤ a) (h1 : a < E 0 0) : ec_price E a n = ec_price F a n := by
  obtain ⟨x1, x2, x3, x4, x5⟩ := h.2.2.2.1 a h0 h1
  unfold ec_price
  rw [x1, x2, x4]
theorem ec_eq.worth {E F : Nat → Int → Int} (h : ec_eq E F) {S : Int → Int} {q : Int} (h0 : 0 ≤ q) (h1 : q < E 0 1) : ec_worth E S q = ec_worth F S q := by
  have e1 : ec_val E S q = ec_val F S q := by
    unfold ec_val
    rw [← h.1]
    refine fs_sum_c fun a a0 a1 => ?_
    rw [h.price a0 (by omega), h.2.2.2.2.2.1 q a h0 h1 a0 (by omega)]
  have e2 : ec_owed E S q = ec_owed F S q := by
    unfold ec_owed
    rw [← h.2.1]
    refine fs_sum_c fun o o0 o1 => ?_
    rw [h.2.2.2.2.2.2 o q o0 (by omega) h0 h1]
  unfold ec_worth
  rw [e1, e2, (h.2.2.2.2.1 q h0 h1).1]
theorem ec_eq.due {E F : Nat → Int → Int} (h : ec_eq E F) {q w : Int} (h0 : 0 ≤ q) (h1 : q < E 0 1) : ec_due E q w = ec_due F q w := by
  obtain ⟨x1, x2, x3, x4, x5⟩ := h.2.2.2.2.1 q h0 h1
  unfold ec_due
  rw [x2, x3, x4]
theorem ec_eq.ord {E F : Nat → Int → Int} (h : ec_eq E F) {q k : Int} (h0 : 0 ≤ q) (h1 : q < E 0 1) : ec_ord E q k = ec_ord F q k := by
  obtain ⟨x1, x2, x3, x4, x5⟩ := h.2.2.2.2.1 q h0 h1
  unfold ec_ord
  rw [x5, h.1]
theorem ec_ord_in {E : Nat → Int → Int} {h k : Int} (hk : 0 ≤ k ∧ k < E 0 0) : 0 ≤ ec_ord E h k ∧ ec_ord E h k < E 0 0 := by
  unfold ec_ord
  by_cases z : E 9 (5 * h + 4) = 0
  · rw [if_pos z]
    exact hk
  · rw [if_neg z]
    omega
theorem ec_eq.part {E F : Nat → Int → Int} (h : ec_eq E F) {q n a : Int} (h0 : 0 ≤ q) (h1 : q < E 0 1) (a0 : 0 ≤ a) (a1 : a < E 0 0) : ec_part E q n a = ec_part F q n a := by
  have e1 : ec_left E q n (ec_ord E q a) = ec_left F q n (ec_ord F q a) := by
    rw [← h.ord h0 h1]
    have ho := ec_ord_in (E := E) (h := q) ⟨a0, a1⟩
    unfold ec_left
    congr 2
    refine fs_sum_c fun j j0 j1 => ?_
    have hj := ec_ord_in (E := E) (h := q) (k := j) ⟨j0, by omega⟩
    rw [← h.ord h0 h1, h.2.2.2.2.2.1 q _ h0 h1 hj.1 hj.2]
  unfold ec_part
  rw [e1, h.2.2.2.2.2.1 q a h0 h1 a0 a1]
theorem ec_eq.ns {E F : Nat → Int → Int} (h : ec_eq E F) {S : Int → Int} {a : Int} : ec_ns E S a = ec_ns F S a := by
  unfold ec_ns
  rw [← h.1, ← h.2.1]
  by_cases q : 0 ≤ a ∧ a < E 0 0
  · rw [if_pos q, if_pos q, (h.2.2.2.1 a q.1 q.2).2.2.1]
    congr 1
    refine fs_sum_c fun x x0 x1 => ?_
    unfold ec_pt
    rw [h.part x0 (by omega) q.1 q.2, h.due x0 (by omega), h.worth x0 (by omega)]
  · rw [if_neg q, if_neg q]
theorem ec_eq.nf {E F : Nat → Int → Int} (h : ec_eq E F) {S : Int → Int} : ∀ n : Nat, (n : Int) ≤ E 0 1 → ec_nf E S n = ec_nf F S n
  | 0, _ => h.2.2.1
  | n + 1, q => by
    unfold ec_nf
    rw [h.nf n (by omega), h.worth (by omega) (by omega)]
theorem ec_eq.next {E F : Nat → Int → Int} (h : ec_eq E F) (hH : 0 ≤ E 0 1) {S : Int → Int} : ec_next E S = ec_next F S := by
  funext i
  unfold ec_next
  rw [h.ns, h.nf (E 0 1).toNat (by omega), ← h.2.1]
theorem ec_eq.calm {E F : Nat → Int → Int} (h : ec_eq E F) : ec_calm E = ec_calm F := by
  funext i
  unfold ec_calm
  rw [h.2.2.1]
theorem ec_eq.panic {E F : Nat → Int → Int} (h : ec_eq E F) : ec_panic E = ec_panic F := by
  funext i
  unfold ec_panic
  rw [← h.1, ← h.2.1]
  by_cases q : 0 ≤ i ∧ i < E 0 0
  · rw [(h.2.2.2.1 i q.1 q.2).2.2.1, (h.2.2.2.1 i q.1 q.2).2.2.2.2]
  · rw [if_neg q, if_neg q]
theorem ec_eq.it {E F : Nat → Int → Int} (h : ec_eq E F) (hH : 0 ≤ E 0 1) {S : Int → Int} : ∀ k, ec_it E S k = ec_it F S k
  | 0 => rfl
  | k + 1 => by
    unfold ec_it
    rw [h.it hH k, h.next hH]
theorem ec_eq.ok {E F : Nat → Int → Int} (h : ec_eq E F) (hH : 0 ≤ E 0 1) {S : Int → Int} : ec_ok E S = ec_ok F S := by
  unfold ec_ok ec_first
  simp only [h.it hH]
theorem ec_eq.fst {E F : Nat → Int → Int} (h : ec_eq E F) (hH : 0 ≤ E 0 1) {S : Int → Int} : (fun k => ec_first E S k) = (fun k => ec_first F S k) := by
  funext k
  unfold ec_first
  simp only [h.it hH]
/-- the first place is but one -/
theorem ec_first_one {E : Nat → Int → Int} {S : Int → Int} {j k : Nat} (h1 : ec_first E S j) (h2 : ec_first E S k) : j = k := by
  rcases Nat.lt_trichotomy j k with q | q | q
  · exact absurd h1.2 (h2.1 j q)
  · exact q
  · exact absurd h2.2 (h1.1 k q)
theorem ec_eq.k {E F : Nat → Int → Int} (h : ec_eq E F) (hH : 0 ≤ E 0 1) {S : Int → Int} (hk : ec_ok E S) : ec_k E S = ec_k F S := by
  have h1 := (ec_k_spec hk).2
  rw [h.ok hH] at hk
  have h2 := (ec_k_spec hk).2
  have h3 := congrFun (h.fst hH (S := S)) (ec_k E S)
  have h3 : ec_first E S (ec_k E S) = ec_first F S (ec_k E S) := h3
  rw [h3] at h1
  exact ec_first_one h1 h2
theorem ec_eq.fix {E F : Nat → Int → Int} (h : ec_eq E F) (hH : 0 ≤ E 0 1) {S : Int → Int} (hk : ec_ok E S) : ec_fix E S = ec_fix F S := by
  unfold ec_fix
  rw [h.k hH hk, h.it hH]
theorem ec_eq.std {E F : Nat → Int → Int} (h : ec_eq E F) (hH : 0 ≤ E 0 1) (hc : ec_ok E (ec_calm E)) (hp : ec_ok E (ec_panic E)) {w : Int} : ec_std E w = ec_std F w := by
  unfold ec_std
  rw [h.fix hH hc, h.fix hH hp, h.calm, h.panic]
theorem ec_eq.lost {E F : Nat → Int → Int} (h : ec_eq E F) {S : Int → Int} : ec_lost E S = ec_lost F S := by
  unfold ec_lost
  rw [← h.1]
  refine fs_sum_c fun a a0 a1 => ?_
  rw [h.price a0 (by omega), h.price a0 (by omega), (h.2.2.2.1 a a0 (by omega)).2.2.2.2]
theorem ec_eq.tell {E F : Nat → Int → Int} (h : ec_eq E F) {S : Int → Int} {w : Int} : ec_tell E S w = ec_tell F S w := by
  unfold ec_tell
  rw [h.lost]
