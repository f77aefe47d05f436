/-! a house sentence, Model: what a fault at hand says of the words -/
theorem TS_nF {M : fs_M} {p f lo hi : Int} (h : TS M p f) (z : ¬ M 124 12 = -1) : nF (M 128) (M 124 7) lo hi f p = M 124 12 := by
  rcases h with ⟨a, b⟩ | ⟨a, b⟩
  · rw [nF_ne a, b]
  · have w := b.f z
    unfold nF
    rw [if_pos a, if_neg (fun y => y.2.1 w.1), w.2]
theorem tx_F_st {T : Int → Int} {n : Int} {N : Int → Int} {q e : Int} {k : Nat} (h : tx_F T n N q e k ≠ -1) : ∀ m, tx_F T n N q e (k + m) = tx_F T n N q e k
  | 0 => rfl
  | m + 1 => by
    have ih := tx_F_st h m
    show nF T n _ _ (tx_F T n N q e (k + m)) _ = _
    rw [ih]
    exact nF_ne h
theorem tx_C_le {T : Int → Int} {n : Int} {N : Int → Int} {e a : Int} (h : skp (tx_Q T n N e) (N 0) a = tx_C T n N e) : a ≤ tx_C T n N e := by
  rw [← h]
  exact (skp_b (P := tx_Q T n N e) (n := N 0) (fun k h => h.1) _ a (Nat.le_refl _)).1