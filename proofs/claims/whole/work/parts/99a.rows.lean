/-! rows that agree on their 139 places -/
def ag (N K : Int → Int) : Prop := ∀ i, 0 ≤ i → i < 139 → N i = K i
theorem ag.rf {N : Int → Int} : ag N N := fun _ _ _ => rfl
theorem ag.sy {N K : Int → Int} (h : ag N K) : ag K N := fun i a b => (h i a b).symm
theorem ag.tr {N K L : Int → Int} (h : ag N K) (k : ag K L) : ag N L := fun i a b => (h i a b).trans (k i a b)
theorem ag.up {N K : Int → Int} {i v : Int} (h : ag N K) : ag (up1 N i v) (up1 K i v) := fun j a b => by
  unfold up1
  by_cases z : j = i
  · rw [if_pos z, if_pos z]
  · rw [if_neg z, if_neg z]; exact h j a b
theorem NI_ag {N K : Int → Int} (a : ag N K) (h : fs_NI N) : fs_NI K := by
  obtain ⟨hA, hH, hC, hF, hO, hL, hS, hI, hW⟩ := h
  have e0 := a 0 (by omega) (by omega)
  have e1 := a 1 (by omega) (by omega)
  refine ⟨by rw [← e0]; exact hA, by rw [← e1]; exact hH, fun q q0 q1 => ?_, fun h k h0 h1 k0 k1 => ?_, fun h k h0 h1 k0 k1 => ?_, fun h k h0 h1 k0 k1 => ?_, fun s s0 s1 => ?_, fun s p w s0 s1 p0 p1 w0 w1 => ?_, fun h h0 h1 => ?_⟩
  · rw [← a _ (by omega) (by omega), ← a _ (by omega) (by omega)]; exact hC q q0 q1
  · rw [← a _ (by omega) (by omega)]; exact hF h k h0 h1 k0 k1
  · rw [← a _ (by omega) (by omega)]; exact hO h k h0 h1 k0 k1
  · rw [← a _ (by omega) (by omega)]; exact hL h k h0 h1 k0 k1
  · rw [← a _ (by omega) (by omega)]; exact hS s s0 s1
  · rw [← a _ (by omega) (by omega)]; exact hI s p w s0 s1 p0 p1 w0 w1
  · rw [← e1] at h1
    rw [← a _ (by omega) (by omega), ← a _ (by omega) (by omega)]; exact hW h h0 h1
theorem NZ_ag {N K : Int → Int} (a : ag N K) (b0 : 0 ≤ N 0) (b1 : 0 ≤ N 1) (h : fs_NZ N) : fs_NZ K := by
  obtain ⟨z1, z2, z3, z4⟩ := h
  have e0 := a 0 (by omega) (by omega)
  have e1 := a 1 (by omega) (by omega)
  refine ⟨fun h k h0 h1 k0 k1 => ?_, fun h k h0 h1 k0 k1 q => ?_, fun h k h0 h1 k0 k1 q => ?_, fun x x0 x1 => ?_⟩
  · rw [← a _ (by omega) (by omega)]; exact z1 h k (by omega) h1 k0 k1
  · rw [← a _ (by omega) (by omega)]; exact z2 h k h0 h1 k0 k1 (by omega)
  · rw [← a _ (by omega) (by omega)]; exact z3 h k h0 h1 k0 k1 (by omega)
  · rw [← a _ (by omega) (by omega), ← a _ (by omega) (by omega)]; exact z4 x (by omega) x1
theorem NX_ag {N K : Int → Int} (a : ag N K) (hS : ∀ s, 0 ≤ s → s < 3 → 0 ≤ N (100 + 13 * s) ∧ N (100 + 13 * s) ≤ 4) (h : fs_NX N) : fs_NX K := fun s k s0 s1 k0 k1 => by
  have e := a (100 + 13 * s) (by omega) (by omega)
  have w := hS s s0 s1
  rw [← e] at k1
  rw [← a _ (by omega) (by omega)]
  exact h s k s0 s1 k0 k1
theorem KP_ag {N K : Int → Int} (a : ag N K) (h : fs_KP N) : fs_KP K := ⟨NI_ag a h.1, NZ_ag a h.1.1.1 h.1.2.1.1 h.2.1, NX_ag a h.1.2.2.2.2.2.2.1 h.2.2⟩
/-! sentences on rows that agree -/
theorem tx_F_ag {T : Int → Int} {n : Int} {N K : Int → Int} {q e : Int} (a : N 1 = K 1) : ∀ k, tx_F T n N q e k = tx_F T n K q e k
  | 0 => by unfold tx_F; rw [a]
  | k + 1 => by
    show nF T n _ _ (tx_F T n N q e k) _ = nF T n _ _ (tx_F T n K q e k) _
    rw [tx_F_ag a k]
theorem tx_Q_ag {T : Int → Int} {n : Int} {N K : Int → Int} {e : Int} (a : N 0 = K 0) : tx_Q T n N e = tx_Q T n K e := by
  funext x
  unfold tx_Q
  rw [a]
theorem tx_C_ag {T : Int → Int} {n : Int} {N K : Int → Int} {e : Int} (a : N 0 = K 0) : tx_C T n N e = tx_C T n K e := by
  unfold tx_C
  rw [tx_Q_ag a, a]
theorem tx_S_ag {T : Int → Int} {n : Int} {N K : Int → Int} {q e : Int} (a : N 0 = K 0) (b : N 1 = K 1) : tx_S T n N q e = tx_S T n K q e := by
  unfold tx_S
  rw [tx_C_ag a, tx_F_ag b]
theorem tx_P_ag {T : Int → Int} {n : Int} {N K : Int → Int} {e : Int} (a : N 0 = K 0) : tx_P T n N e = tx_P T n K e := by
  unfold tx_P
  rw [tx_C_ag a]
theorem aF_ag {T : Int → Int} {n : Int} {N K : Int → Int} {q e : Int} (a : N 0 = K 0) : aF T n N q e = aF T n K q e := by
  unfold aF
  rw [a]
theorem j2F_ag {T : Int → Int} {n : Int} {N K : Int → Int} {e : Int} (b : N 1 = K 1) : j2F T n N e = j2F T n K e := by
  unfold j2F
  rw [b]
theorem jF_ag {T : Int → Int} {n : Int} {N K : Int → Int} {e : Int} (b : N 1 = K 1) : jF T n N e = jF T n K e := by
  unfold jF
  rw [j2F_ag b]
theorem iF_ag {T : Int → Int} {n : Int} {N K : Int → Int} {k q e : Int} (a : N 0 = K 0) (b : N (100 + 13 * k) = K (100 + 13 * k)) : iF T n N k q e = iF T n K k q e := by
  unfold iF
  rw [a, b]
theorem stF_ag {T : Int → Int} {n : Int} {N K : Int → Int} {p : Int} (a : ag N K) : stF T n N p = stF T n K p := by
  have e0 := a 0 (by omega) (by omega)
  have e1 := a 1 (by omega) (by omega)
  unfold stF
  rw [aF_ag e0, tx_S_ag e0 e1, jF_ag e1, iF_ag (k := 0) e0 (a _ (by omega) (by omega)), iF_ag (k := 1) e0 (a _ (by omega) (by omega))]
theorem stP_ag {T : Int → Int} {n : Int} {N K : Int → Int} {p : Int} (a : ag N K) : stP T n N p = stP T n K p := by
  have e0 := a 0 (by omega) (by omega)
  unfold stP
  rw [tx_P_ag e0]
theorem stN_ag {T : Int → Int} {n : Int} {N K : Int → Int} {p : Int} (a : ag N K) : ag (stN T n N p) (stN T n K p) := by
  have e0 := a 0 (by omega) (by omega)
  have e1 := a 1 (by omega) (by omega)
  have it : ∀ k e, (k = 0 ∨ k = 1) → ag (iN T n N k e) (iN T n K k e) := fun k e z => by
    have e2 := a (100 + 13 * k) (by omega) (by omega)
    unfold iN
    rw [e2]
    exact a.up.up.up.up
  unfold stN
  split
  · unfold aN
    rw [e0]
    exact a.up.up.up
  split
  · intro i i0 i1
    unfold tx_R
    rw [e1, tx_C_ag e0, a i i0 i1]
  split
  · exact a.up
  split
  · exact it 0 _ (Or.inl rfl)
  · exact it 1 _ (Or.inr rfl)
theorem tx_go_ag {T : Int → Int} {n : Int} : ∀ (k : Nat) (N K : Int → Int) (p : Int), ag N K → (tx_go T n k N p).1 = (tx_go T n k K p).1 ∧ ag (tx_go T n k N p).2 (tx_go T n k K p).2
  | 0, N, K, p, a => ⟨rfl, a⟩
  | k + 1, N, K, p, a => by
    unfold tx_go
    rw [stF_ag a, stP_ag a]
    by_cases z : p < n
    · rw [if_pos z, if_pos z]
      by_cases y : stF T n K p = -1
      · rw [if_pos y, if_pos y]
        exact tx_go_ag k _ _ _ (stN_ag a)
      · rw [if_neg y, if_neg y]
        exact ⟨rfl, a⟩
    · rw [if_neg z, if_neg z]
      exact ⟨rfl, a⟩
/-! a sentence's end -/
theorem TS_end {M : fs_M} {p f : Int} (h : TS M p f) (z : ¬ M 124 12 = -1) : M 124 12 = eF (M 128) (M 124 7) f p := by
  rcases h with ⟨a, b⟩ | ⟨a, b⟩
  · unfold eF
    rw [if_neg a, b]
  · have w := b.f z
    obtain ⟨g1, g2, g3, g4⟩ := w.1
    unfold eF
    rw [if_pos a, if_neg (fun y => ?_), w.2]
    rw [g1] at y
    omega
theorem TS_ok {M : fs_M} {p f : Int} (h : TS M p f) (z : M 124 12 = -1) (t : M 124 9 = 3) (v : M 124 11 = 59) : eF (M 128) (M 124 7) f p = -1 ∧ M 124 8 = qB (M 128) (M 124 7) p + 1 ∧ qB (M 128) (M 124 7) p < M 124 7 ∧ M 128 (qB (M 128) (M 124 7) p) = 59 := by
  obtain ⟨a, b⟩ := h.fz z
  rcases b.2.2 with ⟨c, _⟩ | ⟨c, _⟩ | ⟨c, _⟩ | ⟨c, d1, d2, d3, d4, d5⟩
  · omega
  · omega
  · omega
  · have w : M 128 (qB (M 128) (M 124 7) p) = 59 := by rw [← d5]; exact v
    refine ⟨?_, d4, d1, w⟩
    unfold eF
    rw [if_pos a, if_pos ⟨d1, w⟩]
theorem TS_no {M : fs_M} {p f : Int} (h : TS M p f) (z : M 124 12 = -1) (t : ¬ (M 124 9 = 3 ∧ M 124 11 = 59)) : eF (M 128) (M 124 7) f p = M 124 10 := by
  obtain ⟨a, b⟩ := h.fz z
  unfold eF
  rw [if_pos a, if_neg (fun y => ?_), b.2.1]
  rcases b.2.2 with ⟨c, d, _⟩ | ⟨c, d, _⟩ | ⟨c, d, _⟩ | ⟨c, d1, d2, d3, d4, d5⟩
  · omega
  · omega
  · omega
  · exact t ⟨c, d5.trans y.2⟩