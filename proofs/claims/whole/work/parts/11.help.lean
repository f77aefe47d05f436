theorem fs_exB : ∀ (n : Nat) {is : List fs_I} {L L1 : fs_L} {st st1 : List fs_V} {M M1 : fs_M} {o1 o2 : List Prop} {r : fs_L × List fs_V × fs_M}, fs_ex (is.take n) L st M = (o1, L1, st1, M1) → fs_ex (is.drop n) L1 st1 M1 = (o2, r) → fs_ex is L st M = (o1 ++ o2, r)
  | 0, is, L, L1, st, st1, M, M1, o1, o2, r, h1, h2 => by
    simp only [List.take_zero, fs_ex, Prod.mk.injEq] at h1
    obtain ⟨rfl, rfl, rfl, rfl⟩ := h1
    simpa using h2
  | n + 1, [], L, L1, st, st1, M, M1, o1, o2, r, h1, h2 => by
    simp only [List.take_nil, fs_ex, Prod.mk.injEq] at h1
    obtain ⟨rfl, rfl, rfl, rfl⟩ := h1
    simpa using h2
  | n + 1, i :: is, L, L1, st, st1, M, M1, o1, o2, r, h1, h2 => by
    simp only [List.take_succ_cons, List.drop_succ_cons, fs_ex] at h1 h2 ⊢
    generalize fs_st i L st M = X at h1 ⊢
    obtain ⟨a1, a2, a3, a4⟩ := X
    simp only at h1 ⊢
    generalize hY : fs_ex (is.take n) a2 a3 a4 = Y at h1
    obtain ⟨b1, b2, b3, b4⟩ := Y
    simp only [Prod.mk.injEq] at h1
    obtain ⟨rfl, rfl, rfl, rfl⟩ := h1
    rw [fs_exB n hY h2]
    simp
theorem fs_exA (n : Nat) {is : List fs_I} {L L1 : fs_L} {st st1 : List fs_V} {M M1 : fs_M} {o1 o2 ob : List Prop} {r : fs_L × List fs_V × fs_M} (h1 : fs_ex (is.take n) L st M = (o1, L1, st1, M1)) (h2 : fs_ex (is.drop n) L1 st1 M1 = (o2, r)) (he : ob = o1 ++ o2 := by rfl) : fs_ex is L st M = (ob, r) := by rw [he]; exact fs_exB n h1 h2
theorem fs_oc {p : Prop} {l : List Prop} (h : p) (k : fs_all l) : fs_all (p :: l) := by
  cases l with
  | nil => exact h
  | cons q r => exact ⟨h, k⟩
theorem fs_qi {Q : Option fs_V → fs_M → Prop} {M : fs_M} {a b : Int} (e : a = b) (h : Q (some (.inl b)) M) : Q (some (.inl a)) M := by rw [e]; exact h
theorem fs_qm {Q : Option fs_V → fs_M → Prop} {M M2 : fs_M} {a b : Int} (e : a = b) (e2 : M = M2) (h : Q (some (.inl b)) M2) : Q (some (.inl a)) M := by rw [e, e2]; exact h
theorem fs_qv {Q : Option fs_V → fs_M → Prop} {M M2 : fs_M} (e2 : M = M2) (h : Q none M2) : Q none M := by rw [e2]; exact h
theorem fs_ob0 : 0 < fs_N ∧ fs_kd 0 = 5 := by decide
theorem fs_ob1 : 1 < fs_N ∧ fs_kd 1 = 4 := by decide
theorem fs_ar2 {i : Int} (h0 : 0 ≤ i) (h1 : i < 800) : (2 < fs_N ∧ fs_kd 2 = 100) ∧ 0 ≤ i ∧ i < fs_ln 2 := ⟨by decide, h0, h1⟩
theorem fs_ob3 : 3 < fs_N ∧ fs_kd 3 = 2 := by decide
theorem fs_ar4 {i : Int} (h0 : 0 ≤ i) (h1 : i < 800) : (4 < fs_N ∧ fs_kd 4 = 100) ∧ 0 ≤ i ∧ i < fs_ln 4 := ⟨by decide, h0, h1⟩
theorem fs_ob5 : 5 < fs_N ∧ fs_kd 5 = 0 := by decide
theorem fs_ar6 {i : Int} (h0 : 0 ≤ i) (h1 : i < 8) : (6 < fs_N ∧ fs_kd 6 = 100) ∧ 0 ≤ i ∧ i < fs_ln 6 := ⟨by decide, h0, h1⟩
theorem fs_ar7 {i : Int} (h0 : 0 ≤ i) (h1 : i < 30) : (7 < fs_N ∧ fs_kd 7 = 100) ∧ 0 ≤ i ∧ i < fs_ln 7 := ⟨by decide, h0, h1⟩
theorem fs_ar8 {i : Int} (h0 : 0 ≤ i) (h1 : i < 24) : (8 < fs_N ∧ fs_kd 8 = 100) ∧ 0 ≤ i ∧ i < fs_ln 8 := ⟨by decide, h0, h1⟩
theorem fs_ar9 {i : Int} (h0 : 0 ≤ i) (h1 : i < 36) : (9 < fs_N ∧ fs_kd 9 = 100) ∧ 0 ≤ i ∧ i < fs_ln 9 := ⟨by decide, h0, h1⟩
theorem fs_ar10 {i : Int} (h0 : 0 ≤ i) (h1 : i < 3) : (10 < fs_N ∧ fs_kd 10 = 100) ∧ 0 ≤ i ∧ i < fs_ln 10 := ⟨by decide, h0, h1⟩
theorem fs_ar11 {i : Int} (h0 : 0 ≤ i) (h1 : i < 36) : (11 < fs_N ∧ fs_kd 11 = 100) ∧ 0 ≤ i ∧ i < fs_ln 11 := ⟨by decide, h0, h1⟩
theorem fs_ob12 : 12 < fs_N ∧ fs_kd 12 = 0 := by decide
theorem fs_ar13 {i : Int} (h0 : 0 ≤ i) (h1 : i < 8) : (13 < fs_N ∧ fs_kd 13 = 100) ∧ 0 ≤ i ∧ i < fs_ln 13 := ⟨by decide, h0, h1⟩
theorem fs_ar14 {i : Int} (h0 : 0 ≤ i) (h1 : i < 30) : (14 < fs_N ∧ fs_kd 14 = 100) ∧ 0 ≤ i ∧ i < fs_ln 14 := ⟨by decide, h0, h1⟩
theorem fs_ar15 {i : Int} (h0 : 0 ≤ i) (h1 : i < 24) : (15 < fs_N ∧ fs_kd 15 = 100) ∧ 0 ≤ i ∧ i < fs_ln 15 := ⟨by decide, h0, h1⟩
theorem fs_ar16 {i : Int} (h0 : 0 ≤ i) (h1 : i < 36) : (16 < fs_N ∧ fs_kd 16 = 100) ∧ 0 ≤ i ∧ i < fs_ln 16 := ⟨by decide, h0, h1⟩
theorem fs_ar17 {i : Int} (h0 : 0 ≤ i) (h1 : i < 3) : (17 < fs_N ∧ fs_kd 17 = 100) ∧ 0 ≤ i ∧ i < fs_ln 17 := ⟨by decide, h0, h1⟩
theorem fs_ar18 {i : Int} (h0 : 0 ≤ i) (h1 : i < 36) : (18 < fs_N ∧ fs_kd 18 = 100) ∧ 0 ≤ i ∧ i < fs_ln 18 := ⟨by decide, h0, h1⟩
theorem fs_ob20 : 20 < fs_N ∧ fs_kd 20 = 1 := by decide
theorem fs_ar21 {i : Int} (h0 : 0 ≤ i) (h1 : i < 4) : (21 < fs_N ∧ fs_kd 21 = 100) ∧ 0 ≤ i ∧ i < fs_ln 21 := ⟨by decide, h0, h1⟩
theorem fs_ar22 {i : Int} (h0 : 0 ≤ i) (h1 : i < 4) : (22 < fs_N ∧ fs_kd 22 = 100) ∧ 0 ≤ i ∧ i < fs_ln 22 := ⟨by decide, h0, h1⟩
theorem fs_ar23 {i : Int} (h0 : 0 ≤ i) (h1 : i < 4) : (23 < fs_N ∧ fs_kd 23 = 100) ∧ 0 ≤ i ∧ i < fs_ln 23 := ⟨by decide, h0, h1⟩
theorem fs_ar24 {i : Int} (h0 : 0 ≤ i) (h1 : i < 4) : (24 < fs_N ∧ fs_kd 24 = 100) ∧ 0 ≤ i ∧ i < fs_ln 24 := ⟨by decide, h0, h1⟩
theorem fs_ar25 {i : Int} (h0 : 0 ≤ i) (h1 : i < 4) : (25 < fs_N ∧ fs_kd 25 = 100) ∧ 0 ≤ i ∧ i < fs_ln 25 := ⟨by decide, h0, h1⟩
theorem fs_ar26 {i : Int} (h0 : 0 ≤ i) (h1 : i < 4) : (26 < fs_N ∧ fs_kd 26 = 100) ∧ 0 ≤ i ∧ i < fs_ln 26 := ⟨by decide, h0, h1⟩
theorem fs_ar27 {i : Int} (h0 : 0 ≤ i) (h1 : i < 6) : (27 < fs_N ∧ fs_kd 27 = 100) ∧ 0 ≤ i ∧ i < fs_ln 27 := ⟨by decide, h0, h1⟩
theorem fs_ar28 {i : Int} (h0 : 0 ≤ i) (h1 : i < 6) : (28 < fs_N ∧ fs_kd 28 = 100) ∧ 0 ≤ i ∧ i < fs_ln 28 := ⟨by decide, h0, h1⟩
theorem fs_ar29 {i : Int} (h0 : 0 ≤ i) (h1 : i < 30) : (29 < fs_N ∧ fs_kd 29 = 100) ∧ 0 ≤ i ∧ i < fs_ln 29 := ⟨by decide, h0, h1⟩
theorem fs_ar30 {i : Int} (h0 : 0 ≤ i) (h1 : i < 24) : (30 < fs_N ∧ fs_kd 30 = 100) ∧ 0 ≤ i ∧ i < fs_ln 30 := ⟨by decide, h0, h1⟩
theorem fs_ar31 {i : Int} (h0 : 0 ≤ i) (h1 : i < 36) : (31 < fs_N ∧ fs_kd 31 = 100) ∧ 0 ≤ i ∧ i < fs_ln 31 := ⟨by decide, h0, h1⟩
theorem fs_ob32 : 32 < fs_N ∧ fs_kd 32 = 3 := by decide
theorem fs_ar33 {i : Int} (h0 : 0 ≤ i) (h1 : i < 4) : (33 < fs_N ∧ fs_kd 33 = 100) ∧ 0 ≤ i ∧ i < fs_ln 33 := ⟨by decide, h0, h1⟩
theorem fs_ob34 : 34 < fs_N ∧ fs_kd 34 = 3 := by decide
theorem fs_ar35 {i : Int} (h0 : 0 ≤ i) (h1 : i < 4) : (35 < fs_N ∧ fs_kd 35 = 100) ∧ 0 ≤ i ∧ i < fs_ln 35 := ⟨by decide, h0, h1⟩
theorem fs_ar36 {i : Int} (h0 : 0 ≤ i) (h1 : i < 6) : (36 < fs_N ∧ fs_kd 36 = 100) ∧ 0 ≤ i ∧ i < fs_ln 36 := ⟨by decide, h0, h1⟩
theorem fs_ar37 {i : Int} (h0 : 0 ≤ i) (h1 : i < 4) : (37 < fs_N ∧ fs_kd 37 = 100) ∧ 0 ≤ i ∧ i < fs_ln 37 := ⟨by decide, h0, h1⟩
theorem fs_ar38 {i : Int} (h0 : 0 ≤ i) (h1 : i < 6) : (38 < fs_N ∧ fs_kd 38 = 100) ∧ 0 ≤ i ∧ i < fs_ln 38 := ⟨by decide, h0, h1⟩
theorem fs_ar39 {i : Int} (h0 : 0 ≤ i) (h1 : i < 6) : (39 < fs_N ∧ fs_kd 39 = 100) ∧ 0 ≤ i ∧ i < fs_ln 39 := ⟨by decide, h0, h1⟩
theorem fs_ob124 : 124 < fs_N ∧ fs_kd 124 = 6 := by decide
theorem fs_ar125 {i : Int} (h0 : 0 ≤ i) (h1 : i < 139) : (125 < fs_N ∧ fs_kd 125 = 100) ∧ 0 ≤ i ∧ i < fs_ln 125 := ⟨by decide, h0, h1⟩
theorem fs_ar126 {i : Int} (h0 : 0 ≤ i) (h1 : i < 139) : (126 < fs_N ∧ fs_kd 126 = 100) ∧ 0 ≤ i ∧ i < fs_ln 126 := ⟨by decide, h0, h1⟩
theorem fs_ar127 {i : Int} (h0 : 0 ≤ i) (h1 : i < 1668) : (127 < fs_N ∧ fs_kd 127 = 100) ∧ 0 ≤ i ∧ i < fs_ln 127 := ⟨by decide, h0, h1⟩
theorem fs_ar128 {i : Int} (h0 : 0 ≤ i) (h1 : i < 800) : (128 < fs_N ∧ fs_kd 128 = 100) ∧ 0 ≤ i ∧ i < fs_ln 128 := ⟨by decide, h0, h1⟩
theorem fs_ar129 {i : Int} (h0 : 0 ≤ i) (h1 : i < 4) : (129 < fs_N ∧ fs_kd 129 = 100) ∧ 0 ≤ i ∧ i < fs_ln 129 := ⟨by decide, h0, h1⟩
theorem fs_ar130 {i : Int} (h0 : 0 ≤ i) (h1 : i < 4) : (130 < fs_N ∧ fs_kd 130 = 100) ∧ 0 ≤ i ∧ i < fs_ln 130 := ⟨by decide, h0, h1⟩
theorem fs_ar131 {i : Int} (h0 : 0 ≤ i) (h1 : i < 6) : (131 < fs_N ∧ fs_kd 131 = 100) ∧ 0 ≤ i ∧ i < fs_ln 131 := ⟨by decide, h0, h1⟩
theorem fs_ar132 {i : Int} (h0 : 0 ≤ i) (h1 : i < 4) : (132 < fs_N ∧ fs_kd 132 = 100) ∧ 0 ≤ i ∧ i < fs_ln 132 := ⟨by decide, h0, h1⟩
theorem fs_ar133 {i : Int} (h0 : 0 ≤ i) (h1 : i < 4) : (133 < fs_N ∧ fs_kd 133 = 100) ∧ 0 ≤ i ∧ i < fs_ln 133 := ⟨by decide, h0, h1⟩
theorem fs_ar134 {i : Int} (h0 : 0 ≤ i) (h1 : i < 24) : (134 < fs_N ∧ fs_kd 134 = 100) ∧ 0 ≤ i ∧ i < fs_ln 134 := ⟨by decide, h0, h1⟩
theorem fs_ar135 {i : Int} (h0 : 0 ≤ i) (h1 : i < 6) : (135 < fs_N ∧ fs_kd 135 = 100) ∧ 0 ≤ i ∧ i < fs_ln 135 := ⟨by decide, h0, h1⟩
theorem fs_ar136 {i : Int} (h0 : 0 ≤ i) (h1 : i < 6) : (136 < fs_N ∧ fs_kd 136 = 100) ∧ 0 ≤ i ∧ i < fs_ln 136 := ⟨by decide, h0, h1⟩
theorem fs_ar137 {i : Int} (h0 : 0 ≤ i) (h1 : i < 6) : (137 < fs_N ∧ fs_kd 137 = 100) ∧ 0 ≤ i ∧ i < fs_ln 137 := ⟨by decide, h0, h1⟩
theorem fs_ar138 {i : Int} (h0 : 0 ≤ i) (h1 : i < 1200) : (138 < fs_N ∧ fs_kd 138 = 100) ∧ 0 ≤ i ∧ i < fs_ln 138 := ⟨by decide, h0, h1⟩
/-- a region that is a Book -/
def fs_bk (b : Nat) : Prop := b = 5 ∨ b = 12 ∨ (40 ≤ b ∧ b < 124 ∧ (b - 40) % 7 = 0)
theorem fs_bk0 {b : Nat} (h : fs_bk b) : b < fs_N ∧ fs_kd b = 0 := by
  have key : ∀ b : Fin 139, (b.val = 5 ∨ b.val = 12 ∨ (40 ≤ b.val ∧ b.val < 124 ∧ (b.val - 40) % 7 = 0)) → fs_kd b.val = 0 := by decide +kernel
  have hb : b < 139 := by unfold fs_bk at h; omega
  exact ⟨hb, key ⟨b, hb⟩ h⟩
theorem fs_bkl1 {b : Nat} (h : fs_bk b) : b + 1 < fs_N ∧ fs_kd (b + 1) = 100 ∧ fs_ln (b + 1) = 8 := by
  have key : ∀ b : Fin 124, (b.val = 5 ∨ b.val = 12 ∨ (40 ≤ b.val ∧ b.val < 124 ∧ (b.val - 40) % 7 = 0)) → fs_kd (b.val + 1) = 100 ∧ fs_ln (b.val + 1) = 8 := by decide +kernel
  have hb : b < 118 := by unfold fs_bk at h; omega
  exact ⟨by unfold fs_N; omega, key ⟨b, by omega⟩ h⟩
theorem fs_bk1 {b : Nat} {i : Int} (h : fs_bk b) (h0 : 0 ≤ i) (h1 : i < 8) : (b + 1 < fs_N ∧ fs_kd (b + 1) = 100) ∧ 0 ≤ i ∧ i < fs_ln (b + 1) := by
  obtain ⟨a, c, e⟩ := fs_bkl1 h
  exact ⟨⟨a, c⟩, h0, by rw [e]; exact h1⟩
theorem fs_bkl2 {b : Nat} (h : fs_bk b) : b + 2 < fs_N ∧ fs_kd (b + 2) = 100 ∧ fs_ln (b + 2) = 30 := by
  have key : ∀ b : Fin 124, (b.val = 5 ∨ b.val = 12 ∨ (40 ≤ b.val ∧ b.val < 124 ∧ (b.val - 40) % 7 = 0)) → fs_kd (b.val + 2) = 100 ∧ fs_ln (b.val + 2) = 30 := by decide +kernel
  have hb : b < 118 := by unfold fs_bk at h; omega
  exact ⟨by unfold fs_N; omega, key ⟨b, by omega⟩ h⟩
theorem fs_bk2 {b : Nat} {i : Int} (h : fs_bk b) (h0 : 0 ≤ i) (h1 : i < 30) : (b + 2 < fs_N ∧ fs_kd (b + 2) = 100) ∧ 0 ≤ i ∧ i < fs_ln (b + 2) := by
  obtain ⟨a, c, e⟩ := fs_bkl2 h
  exact ⟨⟨a, c⟩, h0, by rw [e]; exact h1⟩
theorem fs_bkl3 {b : Nat} (h : fs_bk b) : b + 3 < fs_N ∧ fs_kd (b + 3) = 100 ∧ fs_ln (b + 3) = 24 := by
  have key : ∀ b : Fin 124, (b.val = 5 ∨ b.val = 12 ∨ (40 ≤ b.val ∧ b.val < 124 ∧ (b.val - 40) % 7 = 0)) → fs_kd (b.val + 3) = 100 ∧ fs_ln (b.val + 3) = 24 := by decide +kernel
  have hb : b < 118 := by unfold fs_bk at h; omega
  exact ⟨by unfold fs_N; omega, key ⟨b, by omega⟩ h⟩
theorem fs_bk3 {b : Nat} {i : Int} (h : fs_bk b) (h0 : 0 ≤ i) (h1 : i < 24) : (b + 3 < fs_N ∧ fs_kd (b + 3) = 100) ∧ 0 ≤ i ∧ i < fs_ln (b + 3) := by
  obtain ⟨a, c, e⟩ := fs_bkl3 h
  exact ⟨⟨a, c⟩, h0, by rw [e]; exact h1⟩
theorem fs_bkl4 {b : Nat} (h : fs_bk b) : b + 4 < fs_N ∧ fs_kd (b + 4) = 100 ∧ fs_ln (b + 4) = 36 := by
  have key : ∀ b : Fin 124, (b.val = 5 ∨ b.val = 12 ∨ (40 ≤ b.val ∧ b.val < 124 ∧ (b.val - 40) % 7 = 0)) → fs_kd (b.val + 4) = 100 ∧ fs_ln (b.val + 4) = 36 := by decide +kernel
  have hb : b < 118 := by unfold fs_bk at h; omega
  exact ⟨by unfold fs_N; omega, key ⟨b, by omega⟩ h⟩
theorem fs_bk4 {b : Nat} {i : Int} (h : fs_bk b) (h0 : 0 ≤ i) (h1 : i < 36) : (b + 4 < fs_N ∧ fs_kd (b + 4) = 100) ∧ 0 ≤ i ∧ i < fs_ln (b + 4) := by
  obtain ⟨a, c, e⟩ := fs_bkl4 h
  exact ⟨⟨a, c⟩, h0, by rw [e]; exact h1⟩
theorem fs_bkl5 {b : Nat} (h : fs_bk b) : b + 5 < fs_N ∧ fs_kd (b + 5) = 100 ∧ fs_ln (b + 5) = 3 := by
  have key : ∀ b : Fin 124, (b.val = 5 ∨ b.val = 12 ∨ (40 ≤ b.val ∧ b.val < 124 ∧ (b.val - 40) % 7 = 0)) → fs_kd (b.val + 5) = 100 ∧ fs_ln (b.val + 5) = 3 := by decide +kernel
  have hb : b < 118 := by unfold fs_bk at h; omega
  exact ⟨by unfold fs_N; omega, key ⟨b, by omega⟩ h⟩
theorem fs_bk5 {b : Nat} {i : Int} (h : fs_bk b) (h0 : 0 ≤ i) (h1 : i < 3) : (b + 5 < fs_N ∧ fs_kd (b + 5) = 100) ∧ 0 ≤ i ∧ i < fs_ln (b + 5) := by
  obtain ⟨a, c, e⟩ := fs_bkl5 h
  exact ⟨⟨a, c⟩, h0, by rw [e]; exact h1⟩
theorem fs_bkl6 {b : Nat} (h : fs_bk b) : b + 6 < fs_N ∧ fs_kd (b + 6) = 100 ∧ fs_ln (b + 6) = 36 := by
  have key : ∀ b : Fin 124, (b.val = 5 ∨ b.val = 12 ∨ (40 ≤ b.val ∧ b.val < 124 ∧ (b.val - 40) % 7 = 0)) → fs_kd (b.val + 6) = 100 ∧ fs_ln (b.val + 6) = 36 := by decide +kernel
  have hb : b < 118 := by unfold fs_bk at h; omega
  exact ⟨by unfold fs_N; omega, key ⟨b, by omega⟩ h⟩
theorem fs_bk6 {b : Nat} {i : Int} (h : fs_bk b) (h0 : 0 ≤ i) (h1 : i < 36) : (b + 6 < fs_N ∧ fs_kd (b + 6) = 100) ∧ 0 ≤ i ∧ i < fs_ln (b + 6) := by
  obtain ⟨a, c, e⟩ := fs_bkl6 h
  exact ⟨⟨a, c⟩, h0, by rw [e]; exact h1⟩
/-- a row of n whole numbers -/
def fs_ra (r : Nat) (n : Int) : Prop := r < fs_N ∧ fs_kd r = 100 ∧ fs_ln r = n
theorem fs_raa {r : Nat} {n i : Int} (h : fs_ra r n) (h0 : 0 ≤ i) (h1 : i < n) : (r < fs_N ∧ fs_kd r = 100) ∧ 0 ≤ i ∧ i < fs_ln r := ⟨⟨h.1, h.2.1⟩, h0, by rw [h.2.2]; exact h1⟩
