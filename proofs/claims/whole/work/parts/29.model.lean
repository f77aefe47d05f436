/-- the economy that would be: one asset with a cap, a shock more; a buyer; so many hundredths; who counts as fallen -/
def ec_w (N : Int → Int) (xo xc xs bo bn pt fo : Int) : Nat → Int → Int := fun c i => match c with
  | 0 => if i = 0 then N 0 else if i = 1 then N 1 else fo
  | 1 => N (2 + i) * pt / 100 - (mm_shock N i + (if i = xo then xs else 0))
  | 2 => N (6 + i)
  | 3 => if i = xo ∧ xc < mm_cap N i then xc else mm_cap N i
  | 4 => if i = bo then bn else 0
  | 5 => mm_held N i
  | 7 => N (10 + 5 * i + 0) - N (10 + 5 * i + 1) - fs_sum (N 1).toNat (fun o => N (64 + 6 * i + o))
  | 8 => mm_pieces N i
  | 9 => N (10 + i)
  | 10 => N (40 + i)
  | _ => N (64 + i)
def mm_V (M V : fs_M) (xo xc xs bo bn pt fo : Int) : Prop := mm_q M V ∧ (∀ h, 0 ≤ h → h < 6 → V 131 h = 0) ∧ V 124 19 = xo ∧ V 124 20 = xc ∧ V 124 21 = xs ∧ V 124 22 = bo ∧ V 124 23 = bn ∧ V 124 24 = pt ∧ V 124 25 = fo
section MmV
variable {M V V2 : fs_M} {xo xc xs bo bn pt fo v : Int}
theorem mm_V.P (p : mm_P M V) : mm_V M V (-1) 360 0 (-1) 0 100 0 := ⟨mm_q.P p, p.2.2.1, p.2.2.2⟩
theorem mm_V.q (h : mm_V M V xo xc xs bo bn pt fo) : mm_q M V := h.1
theorem mm_V.f3 (h : mm_V M V xo xc xs bo bn pt fo) (f : mm_f3 V V2) : mm_V M V2 xo xc xs bo bn pt fo := by
  obtain ⟨h1, h2, h3, h4, h5, h6, h7, h8, h9⟩ := h
  refine ⟨h1.tr (mm_q.f3 f), fun q q0 q1 => by rw [f.1 131 (by decide) (by decide) (by decide)]; exact h2 q q0 q1, ?_, ?_, ?_, ?_, ?_, ?_, ?_⟩
  all_goals (rw [f.2 _ (by decide) (by decide) (by decide)]; assumption)
theorem mm_V.I (h : mm_V M V xo xc xs bo bn pt fo) (hN : fs_NI (M 125)) (hp : 0 ≤ pt ∧ pt ≤ 100) (hs : 0 ≤ xs ∧ xs ≤ 200) (hb : 0 ≤ bn ∧ bn ≤ 360) (hc : 0 ≤ xc ∧ xc ≤ 360) (hf : 0 ≤ fo ∧ fo < 64) : mm_I V := by
  obtain ⟨h1, h2, h3, h4, h5, h6, h7, h8, h9⟩ := h
  refine ⟨by rw [h1.N]; exact hN, fun q q0 q1 => by rw [h2 q q0 q1]; omega, ?_, ?_, ?_, ?_, ?_⟩
  all_goals omega
theorem mm_V.e (h : mm_V M V xo xc xs bo bn pt fo) (hN : fs_NI (M 125)) : ec_eq (mm_E V) (ec_w (M 125) xo xc xs bo bn pt fo) := by
  obtain ⟨h1, h2, h3, h4, h5, h6, h7, h8, h9⟩ := h
  have e := h1.N
  subst h3 h4 h5 h6 h7 h8 h9
  refine ⟨by show V 125 0 = M 125 0; rw [e], by show V 125 1 = M 125 1; rw [e], rfl, fun a a0 a1 => ⟨?_, ?_, ?_, rfl, ?_⟩, fun q q0 q1 => ⟨?_, ?_, ?_, ?_, ?_⟩, fun q a _ _ _ _ => ?_, fun o q _ _ _ _ => ?_⟩
  · show V 125 (2 + a) * _ / 100 - (mm_shock (V 125) a + _) = M 125 (2 + a) * _ / 100 - (mm_shock (M 125) a + _)
    rw [e]
  · show V 125 (6 + a) = M 125 (6 + a)
    rw [e]
  · show (if a = _ ∧ _ < mm_cap (V 125) a then _ else mm_cap (V 125) a) = (if a = _ ∧ _ < mm_cap (M 125) a then _ else mm_cap (M 125) a)
    rw [e]
  · show mm_held (V 125) a = mm_held (M 125) a
    rw [e]
  · show V 125 (10 + 5 * q + 0) + (if 0 ≤ q ∧ q < 6 then V 131 q else 0) - V 125 (10 + 5 * q + 1) - fs_sum (V 125 1).toNat (fun o => V 125 (64 + 6 * q + o)) = M 125 (10 + 5 * q + 0) - M 125 (10 + 5 * q + 1) - fs_sum (M 125 1).toNat (fun o => M 125 (64 + 6 * q + o))
    have q2 : q < 6 := by
      have : q < V 125 1 := q1
      rw [e] at this
      have := hN.2.1.2
      omega
    rw [e, if_pos ⟨q0, q2⟩, h2 q q0 q2]
    omega
  · show mm_pieces (V 125) q = mm_pieces (M 125) q
    rw [e]
  all_goals (first | (show V 125 _ = M 125 _; rw [e]))
theorem mm_V.u {i : Int} (h : mm_V M V xo xc xs bo bn pt fo) (hi : i = 19 ∨ i = 20 ∨ i = 21 ∨ i = 22 ∨ i = 23 ∨ i = 24 ∨ i = 25) : mm_V M (fs_up V 124 i v) (if i = 19 then v else xo) (if i = 20 then v else xc) (if i = 21 then v else xs) (if i = 22 then v else bo) (if i = 23 then v else bn) (if i = 24 then v else pt) (if i = 25 then v else fo) := by
  obtain ⟨h1, h2, h3, h4, h5, h6, h7, h8, h9⟩ := h
  refine ⟨⟨fun r q => by rw [fs_up_other (by omega)]; exact h1.1 r q, by rw [fs_up_at, if_neg (by omega)]; exact h1.2.1, by rw [fs_up_at, if_neg (by omega)]; exact h1.2.2⟩, fun q q0 q1 => by rw [fs_up_other (by decide)]; exact h2 q q0 q1, ?_, ?_, ?_, ?_, ?_, ?_, ?_⟩
  all_goals (rw [fs_up_at]; rcases hi with z | z | z | z | z | z | z <;> subst z <;> simp <;> assumption)
theorem mm_V.to {xo2 xc2 xs2 bo2 bn2 pt2 fo2 : Int} (h : mm_V M V xo xc xs bo bn pt fo) (e1 : xo = xo2) (e2 : xc = xc2) (e3 : xs = xs2) (e4 : bo = bo2) (e5 : bn = bn2) (e6 : pt = pt2) (e7 : fo = fo2) : mm_V M V xo2 xc2 xs2 bo2 bn2 pt2 fo2 := by
  subst e1 e2 e3 e4 e5 e6 e7
  exact h
theorem mm_V.lst (h : mm_V M V xo xc xs bo bn pt fo) (hN : fs_NI (M 125)) (hI : mm_I V) : ec_lst (mm_E V) = ec_lst (ec_w (M 125) xo xc xs bo bn pt fo) := (h.e hN).lst hI.1.2.1.1 (mm_okc hI)
theorem mm_V.safe (h : mm_V M V xo xc xs bo bn pt fo) (hN : fs_NI (M 125)) (hI : mm_I V) : ec_safe (mm_E V) ↔ ec_safe (ec_w (M 125) xo xc xs bo bn pt fo) := (h.e hN).safe hI.1.2.1.1 (mm_okc hI)
end MmV
noncomputable def rq_buyer (N : Int → Int) (a n x : Int) : Int := if (0 ≤ a ∧ a < N 0) ∧ (0 ≤ n ∧ n ≤ 360) ∧ mm_ask N x then ec_tell (ec_w N (-1) 360 0 a n 100 0) (ec_lst (ec_w N (-1) 360 0 a n 100 0)) x else -1
noncomputable def rq_stress (N : Int → Int) (p x : Int) : Int := if (0 ≤ p ∧ p ≤ 100) ∧ mm_ask N x then ec_tell (ec_w N (-1) 360 0 (-1) 0 p 0) (ec_lst (ec_w N (-1) 360 0 (-1) 0 p 0)) x else -1
def ec_fo (N : Int → Int) (f : Int) : Nat → Int → Int := ec_w N (-1) 360 0 (-1) 0 100 f
noncomputable def rq_domino (N : Int → Int) (h x : Int) : Int := if (0 ≤ h ∧ h < N 1) ∧ mm_ask N x then ec_tell (ec_fo N (fs_shl 1 h)) (ec_lst (ec_fo N (fs_shl 1 h))) x else -1
noncomputable def rq_pulls (N : Int → Int) (h : Int) : Int := if 0 ≤ h ∧ h < N 1 then fs_and (fs_and (ec_lst (ec_fo N (fs_shl 1 h)) 4) (fs_xor (ec_lst (ec_fo N 0) 4) (-1))) (fs_xor (fs_shl 1 h) (-1)) else -1
noncomputable def rq_doubtful (N : Int → Int) : Int := fs_and (ec_std (ec_pl N) 2 4) (fs_xor (ec_lst (ec_fo N 0) 4) (-1))
def ec_xt (N : Int → Int) (a : Int) (c : Int) (v : Int) : Nat → Int → Int := ec_w N a (if c = 0 then 360 else v) (if c = 0 then v else 0) (-1) 0 100 0
noncomputable def rq_great (N : Int → Int) (a c most : Int) : Int := @ite _ (ec_safe (ec_xt N a c 0)) (Classical.propDecidable _) (fs_bsM (fun v => ec_safe (ec_xt N a c v)) most.toNat 0 most) (-2)
noncomputable def rq_fewest (N : Int → Int) : Int := @ite _ (ec_safe (ec_w N (-1) 360 0 (-1) 0 100 0)) (Classical.propDecidable _) (fs_bsL (fun v => ec_safe (ec_w N (-1) 360 0 (-1) 0 v 0)) 100 0 100) (-2)
theorem fs_shl5 {h : Int} (h0 : 0 ≤ h) (h1 : h < 6) : 0 ≤ fs_shl 1 h ∧ fs_shl 1 h < 64 := by
  have key : ∀ o : Fin 6, 0 ≤ fs_shl 1 (o.val : Int) ∧ fs_shl 1 (o.val : Int) < 64 := by decide +kernel
  have := key ⟨h.toNat, by omega⟩
  simp only [Int.toNat_of_nonneg h0] at this
  exact this
theorem fs_m_buyer {d : Nat} {M : fs_M} {Q : Option fs_V → fs_M → Prop} {a : Int} {n : Int} {x : Int}  (hI : fs_NI (M 125)) (hq0 : ∀ (M2 : fs_M), (mm_q M M2) → Q (some (.inl (rq_buyer (M 125) a n x))) M2) : fs_W (d + 8) 263 0 [some (.inr (.ref 124)), some (.inl a), some (.inl n), some (.inl x)] [] M Q := by
  have hN := hI
  refine fs_r_call (sta := false) (idx := 224) (as := [.inr (.ref 124), .inl a]) (rest := []) (L1 := [some (.inr (.ref 124)), some (.inl a), some (.inl n), some (.inl x)]) (st1 := [.inl a, .inr (.ref 124)]) (M1 := M) (ob := []) rfl rfl rfl trivial rfl rfl (Nat.le_of_ble_eq_true rfl) ⟨Or.inr (Nat.le_of_ble_eq_true rfl), Or.inr fs_ob124⟩ (by decide) ?_
  refine fs_m_isAsset (by assumption) (fun (f1 : 0 ≤ a ∧ a < M 125 0) => ?_) (fun (f2 : ¬ (0 ≤ a ∧ a < M 125 0)) => ?_)
  · refine fs_r_if (a := 1) (L1 := [some (.inr (.ref 124)), some (.inl a), some (.inl n), some (.inl x)]) (st1 := []) (M1 := M) (ob := []) rfl rfl trivial (fun h => absurd h (by decide : ¬ ((1 : Int) = 0))) (fun _ => ?_)
    refine fs_r_call (sta := true) (idx := 68) (as := [.inl n, .inl 0, .inl 360]) (rest := []) (L1 := [some (.inr (.ref 124)), some (.inl a), some (.inl n), some (.inl x)]) (st1 := [.inl 360, .inl 0, .inl n]) (M1 := M) (ob := []) rfl rfl rfl trivial rfl rfl (Nat.le_of_ble_eq_true rfl) ⟨Or.inr (Nat.le_of_ble_eq_true rfl), trivial⟩ (by decide) ?_
    refine fs_m_isIn (fun (f3 : 0 ≤ n ∧ n ≤ 360) => ?_) (fun (f4 : ¬ (0 ≤ n ∧ n ≤ 360)) => ?_)
    · refine fs_r_if (a := 1) (L1 := [some (.inr (.ref 124)), some (.inl a), some (.inl n), some (.inl x)]) (st1 := []) (M1 := M) (ob := []) rfl rfl trivial (fun h => absurd h (by decide : ¬ ((1 : Int) = 0))) (fun _ => ?_)
      refine fs_r_call (sta := false) (idx := 267) (as := [.inr (.ref 124), .inl x]) (rest := []) (L1 := [some (.inr (.ref 124)), some (.inl a), some (.inl n), some (.inl x)]) (st1 := [.inl x, .inr (.ref 124)]) (M1 := M) (ob := []) rfl rfl rfl trivial rfl rfl (Nat.le_of_ble_eq_true rfl) ⟨Or.inr (Nat.le_of_ble_eq_true rfl), Or.inr fs_ob124⟩ (by decide) ?_
      refine fs_m_isAsked (by assumption) (fun (f5 : mm_ask (M 125) x) => ?_) (fun (f6 : ¬ (mm_ask (M 125) x)) => ?_)
      · refine fs_r_if (a := 1) (L1 := [some (.inr (.ref 124)), some (.inl a), some (.inl n), some (.inl x)]) (st1 := []) (M1 := M) (ob := []) rfl rfl trivial (fun _ => ?_) (fun h => absurd (by decide : ¬ (1 : Int) = 0) h)
        refine fs_r_call (sta := false) (idx := 252) (as := [.inr (.ref 124)]) (rest := []) (L1 := [some (.inr (.ref 124)), some (.inl a), some (.inl n), some (.inl x)]) (st1 := [.inr (.ref 124)]) (M1 := M) (ob := []) rfl rfl rfl trivial rfl rfl (Nat.le_of_ble_eq_true rfl) ⟨Or.inr (Nat.le_of_ble_eq_true rfl), Or.inr fs_ob124⟩ (by decide) ?_
        refine fs_m_plain (fun (P1 : fs_M) (pp : mm_P M P1) => ?_)
        have v0 := ((((mm_V.P pp).u (i := 22) (v := a) (by omega)).u (i := 23) (v := n) (by omega)).to rfl rfl rfl rfl rfl rfl rfl : mm_V M _ (-1) 360 0 a n 100 0)
        have i0 := v0.I hN (by omega) (by omega) (by omega) (by omega) (by omega)
        refine fs_r_call (sta := false) (idx := 255) (as := [.inr (.ref 124)]) (rest := []) (L1 := [some (.inr (.ref 124)), some (.inl a), some (.inl n), some (.inl x)]) (st1 := [.inr (.ref 124)]) (M1 := (fs_up (fs_up P1 124 22 a) 124 23 n)) (ob := [124 < fs_N ∧ fs_kd 124 = 6, 124 < fs_N ∧ fs_kd 124 = 6]) rfl rfl rfl (fs_oc fs_ob124 (fs_oc fs_ob124 trivial)) rfl rfl (Nat.le_of_ble_eq_true rfl) ⟨Or.inr (Nat.le_of_ble_eq_true rfl), Or.inr fs_ob124⟩ (by decide) ?_
        refine fs_m_least (i0) (fun (V1 : fs_M) (g1 : mm_f3 (fs_up (fs_up P1 124 22 a) 124 23 n) V1) (g2 : mm_st V1 = ec_fix (mm_E (fs_up (fs_up P1 124 22 a) 124 23 n)) (ec_calm (mm_E (fs_up (fs_up P1 124 22 a) 124 23 n)))) (g3 : mm_J V1) (g4 : mm_Z V1) (g5 : V1 124 17 = (ec_k (mm_E (fs_up (fs_up P1 124 22 a) 124 23 n)) (ec_calm (mm_E (fs_up (fs_up P1 124 22 a) 124 23 n))) : Nat)) => ?_)
        have v1 := v0.f3 g1
        have I1 := g1.I i0
        refine fs_r_call (sta := false) (idx := 258) (as := [.inr (.ref 124), .inl x]) (rest := []) (L1 := [some (.inr (.ref 124)), some (.inl a), some (.inl n), some (.inl x)]) (st1 := [.inl x, .inr (.ref 124)]) (M1 := V1) (ob := []) rfl rfl rfl trivial rfl rfl (Nat.le_of_ble_eq_true rfl) ⟨Or.inr (Nat.le_of_ble_eq_true rfl), Or.inr fs_ob124⟩ (by decide) ?_
        refine fs_m_told (I1) (by assumption) (by rw [v1.q.N]; assumption) ?_
        refine fs_r_iret (a := (ec_tell (mm_E V1) (mm_st V1) x)) (L1 := [some (.inr (.ref 124)), some (.inl a), some (.inl n), some (.inl x)]) (M1 := V1) (ob := []) rfl rfl trivial (Or.inl rfl) ?_
        exact fs_qi (by unfold rq_buyer; rw [if_pos ⟨by assumption, by assumption, by assumption⟩, (v1.e hN).tell, g2, ← v0.lst hN i0]; rfl) (hq0 _ v1.q)
      refine fs_r_if (a := 0) (L1 := [some (.inr (.ref 124)), some (.inl a), some (.inl n), some (.inl x)]) (st1 := []) (M1 := M) (ob := []) rfl rfl trivial (fun h => absurd h (by decide : ¬ (¬ (0 : Int) = 0))) (fun _ => ?_)
      refine fs_r_iret (a := (-1)) (L1 := [some (.inr (.ref 124)), some (.inl a), some (.inl n), some (.inl x)]) (M1 := M) (ob := []) rfl rfl trivial (Or.inl rfl) ?_
      exact fs_qi (by unfold rq_buyer; rw [if_neg (fun z => by first | exact absurd z (by assumption) | exact absurd z.1 (by assumption) | exact absurd z.2 (by assumption) | exact absurd z.2.1 (by assumption) | exact absurd z.2.2 (by assumption))]) (hq0 _ mm_q.rf)
    refine fs_r_if (a := 0) (L1 := [some (.inr (.ref 124)), some (.inl a), some (.inl n), some (.inl x)]) (st1 := []) (M1 := M) (ob := []) rfl rfl trivial (fun _ => ?_) (fun h => absurd (by decide : (0 : Int) = 0) h)
    refine fs_r_iret (a := (-1)) (L1 := [some (.inr (.ref 124)), some (.inl a), some (.inl n), some (.inl x)]) (M1 := M) (ob := []) rfl rfl trivial (Or.inl rfl) ?_
    exact fs_qi (by unfold rq_buyer; rw [if_neg (fun z => by first | exact absurd z (by assumption) | exact absurd z.1 (by assumption) | exact absurd z.2 (by assumption) | exact absurd z.2.1 (by assumption) | exact absurd z.2.2 (by assumption))]) (hq0 _ mm_q.rf)
  refine fs_r_if (a := 0) (L1 := [some (.inr (.ref 124)), some (.inl a), some (.inl n), some (.inl x)]) (st1 := []) (M1 := M) (ob := []) rfl rfl trivial (fun _ => ?_) (fun h => absurd (by decide : (0 : Int) = 0) h)
  refine fs_r_iret (a := (-1)) (L1 := [some (.inr (.ref 124)), some (.inl a), some (.inl n), some (.inl x)]) (M1 := M) (ob := []) rfl rfl trivial (Or.inl rfl) ?_
  exact fs_qi (by unfold rq_buyer; rw [if_neg (fun z => by first | exact absurd z (by assumption) | exact absurd z.1 (by assumption) | exact absurd z.2 (by assumption) | exact absurd z.2.1 (by assumption) | exact absurd z.2.2 (by assumption))]) (hq0 _ mm_q.rf)

theorem fs_m_stress {d : Nat} {M : fs_M} {Q : Option fs_V → fs_M → Prop} {p : Int} {x : Int}  (hI : fs_NI (M 125)) (hq0 : ∀ (M2 : fs_M), (mm_q M M2) → Q (some (.inl (rq_stress (M 125) p x))) M2) : fs_W (d + 8) 273 0 [some (.inr (.ref 124)), some (.inl p), some (.inl x)] [] M Q := by
  have hN := hI
  refine fs_r_call (sta := true) (idx := 68) (as := [.inl p, .inl 0, .inl 100]) (rest := []) (L1 := [some (.inr (.ref 124)), some (.inl p), some (.inl x)]) (st1 := [.inl 100, .inl 0, .inl p]) (M1 := M) (ob := []) rfl rfl rfl trivial rfl rfl (Nat.le_of_ble_eq_true rfl) ⟨Or.inr (Nat.le_of_ble_eq_true rfl), trivial⟩ (by decide) ?_
  refine fs_m_isIn (fun (f1 : 0 ≤ p ∧ p ≤ 100) => ?_) (fun (f2 : ¬ (0 ≤ p ∧ p ≤ 100)) => ?_)
  · refine fs_r_if (a := 1) (L1 := [some (.inr (.ref 124)), some (.inl p), some (.inl x)]) (st1 := []) (M1 := M) (ob := []) rfl rfl trivial (fun h => absurd h (by decide : ¬ ((1 : Int) = 0))) (fun _ => ?_)
    refine fs_r_call (sta := false) (idx := 267) (as := [.inr (.ref 124), .inl x]) (rest := []) (L1 := [some (.inr (.ref 124)), some (.inl p), some (.inl x)]) (st1 := [.inl x, .inr (.ref 124)]) (M1 := M) (ob := []) rfl rfl rfl trivial rfl rfl (Nat.le_of_ble_eq_true rfl) ⟨Or.inr (Nat.le_of_ble_eq_true rfl), Or.inr fs_ob124⟩ (by decide) ?_
    refine fs_m_isAsked (by assumption) (fun (f3 : mm_ask (M 125) x) => ?_) (fun (f4 : ¬ (mm_ask (M 125) x)) => ?_)
    · refine fs_r_if (a := 1) (L1 := [some (.inr (.ref 124)), some (.inl p), some (.inl x)]) (st1 := []) (M1 := M) (ob := []) rfl rfl trivial (fun _ => ?_) (fun h => absurd (by decide : ¬ (1 : Int) = 0) h)
      refine fs_r_call (sta := false) (idx := 252) (as := [.inr (.ref 124)]) (rest := []) (L1 := [some (.inr (.ref 124)), some (.inl p), some (.inl x)]) (st1 := [.inr (.ref 124)]) (M1 := M) (ob := []) rfl rfl rfl trivial rfl rfl (Nat.le_of_ble_eq_true rfl) ⟨Or.inr (Nat.le_of_ble_eq_true rfl), Or.inr fs_ob124⟩ (by decide) ?_
      refine fs_m_plain (fun (P1 : fs_M) (pp : mm_P M P1) => ?_)
      have v0 := (((mm_V.P pp).u (i := 24) (v := p) (by omega)).to rfl rfl rfl rfl rfl rfl rfl : mm_V M _ (-1) 360 0 (-1) 0 p 0)
      have i0 := v0.I hN (by omega) (by omega) (by omega) (by omega) (by omega)
      refine fs_r_call (sta := false) (idx := 255) (as := [.inr (.ref 124)]) (rest := []) (L1 := [some (.inr (.ref 124)), some (.inl p), some (.inl x)]) (st1 := [.inr (.ref 124)]) (M1 := (fs_up P1 124 24 p)) (ob := [124 < fs_N ∧ fs_kd 124 = 6]) rfl rfl rfl (fs_oc fs_ob124 trivial) rfl rfl (Nat.le_of_ble_eq_true rfl) ⟨Or.inr (Nat.le_of_ble_eq_true rfl), Or.inr fs_ob124⟩ (by decide) ?_
      refine fs_m_least (i0) (fun (V1 : fs_M) (g1 : mm_f3 (fs_up P1 124 24 p) V1) (g2 : mm_st V1 = ec_fix (mm_E (fs_up P1 124 24 p)) (ec_calm (mm_E (fs_up P1 124 24 p)))) (g3 : mm_J V1) (g4 : mm_Z V1) (g5 : V1 124 17 = (ec_k (mm_E (fs_up P1 124 24 p)) (ec_calm (mm_E (fs_up P1 124 24 p))) : Nat)) => ?_)
      have v1 := v0.f3 g1
      have I1 := g1.I i0
      refine fs_r_call (sta := false) (idx := 258) (as := [.inr (.ref 124), .inl x]) (rest := []) (L1 := [some (.inr (.ref 124)), some (.inl p), some (.inl x)]) (st1 := [.inl x, .inr (.ref 124)]) (M1 := V1) (ob := []) rfl rfl rfl trivial rfl rfl (Nat.le_of_ble_eq_true rfl) ⟨Or.inr (Nat.le_of_ble_eq_true rfl), Or.inr fs_ob124⟩ (by decide) ?_
      refine fs_m_told (I1) (by assumption) (by rw [v1.q.N]; assumption) ?_
      refine fs_r_iret (a := (ec_tell (mm_E V1) (mm_st V1) x)) (L1 := [some (.inr (.ref 124)), some (.inl p), some (.inl x)]) (M1 := V1) (ob := []) rfl rfl trivial (Or.inl rfl) ?_
      exact fs_qi (by unfold rq_stress; rw [if_pos ⟨by assumption, by assumption⟩, (v1.e hN).tell, g2, ← v0.lst hN i0]; rfl) (hq0 _ v1.q)
    refine fs_r_if (a := 0) (L1 := [some (.inr (.ref 124)), some (.inl p), some (.inl x)]) (st1 := []) (M1 := M) (ob := []) rfl rfl trivial (fun h => absurd h (by decide : ¬ (¬ (0 : Int) = 0))) (fun _ => ?_)
    refine fs_r_iret (a := (-1)) (L1 := [some (.inr (.ref 124)), some (.inl p), some (.inl x)]) (M1 := M) (ob := []) rfl rfl trivial (Or.inl rfl) ?_
    exact fs_qi (by unfold rq_stress; rw [if_neg (fun z => by first | exact absurd z (by assumption) | exact absurd z.1 (by assumption) | exact absurd z.2 (by assumption) | exact absurd z.2.1 (by assumption) | exact absurd z.2.2 (by assumption))]) (hq0 _ mm_q.rf)
  refine fs_r_if (a := 0) (L1 := [some (.inr (.ref 124)), some (.inl p), some (.inl x)]) (st1 := []) (M1 := M) (ob := []) rfl rfl trivial (fun _ => ?_) (fun h => absurd (by decide : (0 : Int) = 0) h)
  refine fs_r_iret (a := (-1)) (L1 := [some (.inr (.ref 124)), some (.inl p), some (.inl x)]) (M1 := M) (ob := []) rfl rfl trivial (Or.inl rfl) ?_
  exact fs_qi (by unfold rq_stress; rw [if_neg (fun z => by first | exact absurd z (by assumption) | exact absurd z.1 (by assumption) | exact absurd z.2 (by assumption) | exact absurd z.2.1 (by assumption) | exact absurd z.2.2 (by assumption))]) (hq0 _ mm_q.rf)

theorem fs_m_leastWith {d : Nat} {M : fs_M} {Q : Option fs_V → fs_M → Prop} {h : Int}  (hI : fs_NI (M 125)) (hh : 0 ≤ h ∧ h < 6) (hq0 : ∀ (M2 : fs_M), (mm_V M M2 (-1) 360 0 (-1) 0 100 (fs_shl 1 h)) → (mm_I M2) → (mm_J M2) → (mm_st M2 = ec_lst (ec_fo (M 125) (fs_shl 1 h))) → Q none M2) : fs_W (d + 8) 268 0 [some (.inr (.ref 124)), some (.inl h)] [] M Q := by
  have hN := hI
  refine fs_r_call (sta := false) (idx := 252) (as := [.inr (.ref 124)]) (rest := []) (L1 := [some (.inr (.ref 124)), some (.inl h)]) (st1 := [.inr (.ref 124)]) (M1 := M) (ob := []) rfl rfl rfl trivial rfl rfl (Nat.le_of_ble_eq_true rfl) ⟨Or.inr (Nat.le_of_ble_eq_true rfl), Or.inr fs_ob124⟩ (by decide) ?_
  refine fs_m_plain (fun (P1 : fs_M) (pp : mm_P M P1) => ?_)
  have s5 := fs_shl5 hh.1 hh.2
  have v0 := (((mm_V.P pp).u (i := 25) (v := fs_shl 1 h) (by omega)).to rfl rfl rfl rfl rfl rfl rfl : mm_V M _ (-1) 360 0 (-1) 0 100 (fs_shl 1 h))
  have i0 := v0.I hN (by omega) (by omega) (by omega) (by omega) s5
  refine fs_r_call (sta := false) (idx := 255) (as := [.inr (.ref 124)]) (rest := []) (L1 := [some (.inr (.ref 124)), some (.inl h)]) (st1 := [.inr (.ref 124)]) (M1 := (fs_up P1 124 25 (fs_shl 1 h))) (ob := [124 < fs_N ∧ fs_kd 124 = 6]) rfl rfl rfl (fs_oc fs_ob124 trivial) rfl rfl (Nat.le_of_ble_eq_true rfl) ⟨Or.inr (Nat.le_of_ble_eq_true rfl), Or.inr fs_ob124⟩ (by decide) ?_
  refine fs_m_least (i0) (fun (V1 : fs_M) (g1 : mm_f3 (fs_up P1 124 25 (fs_shl 1 h)) V1) (g2 : mm_st V1 = ec_fix (mm_E (fs_up P1 124 25 (fs_shl 1 h))) (ec_calm (mm_E (fs_up P1 124 25 (fs_shl 1 h))))) (g3 : mm_J V1) (g4 : mm_Z V1) (g5 : V1 124 17 = (ec_k (mm_E (fs_up P1 124 25 (fs_shl 1 h))) (ec_calm (mm_E (fs_up P1 124 25 (fs_shl 1 h)))) : Nat)) => ?_)
  have v1 := v0.f3 g1
  have I1 := g1.I i0
  refine fs_r_ret (L1 := [some (.inr (.ref 124)), some (.inl h)]) (M1 := V1) (ob := []) rfl rfl trivial ?_
  exact hq0 _ v1 I1 g3 (by rw [g2]; exact v0.lst hN i0)

theorem fs_m_domino {d : Nat} {M : fs_M} {Q : Option fs_V → fs_M → Prop} {h : Int} {x : Int}  (hI : fs_NI (M 125)) (hq0 : ∀ (M2 : fs_M), (mm_q M M2) → Q (some (.inl (rq_domino (M 125) h x))) M2) : fs_W (d + 9) 269 0 [some (.inr (.ref 124)), some (.inl h), some (.inl x)] [] M Q := by
  have hN := hI
  refine fs_r_call (sta := false) (idx := 237) (as := [.inr (.ref 124), .inl h]) (rest := []) (L1 := [some (.inr (.ref 124)), some (.inl h), some (.inl x)]) (st1 := [.inl h, .inr (.ref 124)]) (M1 := M) (ob := []) rfl rfl rfl trivial rfl rfl (Nat.le_of_ble_eq_true rfl) ⟨Or.inr (Nat.le_of_ble_eq_true rfl), Or.inr fs_ob124⟩ (by decide) ?_
  refine fs_m_isHouse (by assumption) (fun (f1 : 0 ≤ h ∧ h < M 125 1) => ?_) (fun (f2 : ¬ (0 ≤ h ∧ h < M 125 1)) => ?_)
  · refine fs_r_if (a := 1) (L1 := [some (.inr (.ref 124)), some (.inl h), some (.inl x)]) (st1 := []) (M1 := M) (ob := []) rfl rfl trivial (fun h => absurd h (by decide : ¬ ((1 : Int) = 0))) (fun _ => ?_)
    refine fs_r_call (sta := false) (idx := 267) (as := [.inr (.ref 124), .inl x]) (rest := []) (L1 := [some (.inr (.ref 124)), some (.inl h), some (.inl x)]) (st1 := [.inl x, .inr (.ref 124)]) (M1 := M) (ob := []) rfl rfl rfl trivial rfl rfl (Nat.le_of_ble_eq_true rfl) ⟨Or.inr (Nat.le_of_ble_eq_true rfl), Or.inr fs_ob124⟩ (by decide) ?_
    refine fs_m_isAsked (by assumption) (fun (f3 : mm_ask (M 125) x) => ?_) (fun (f4 : ¬ (mm_ask (M 125) x)) => ?_)
    · refine fs_r_if (a := 1) (L1 := [some (.inr (.ref 124)), some (.inl h), some (.inl x)]) (st1 := []) (M1 := M) (ob := []) rfl rfl trivial (fun _ => ?_) (fun h => absurd (by decide : ¬ (1 : Int) = 0) h)
      have hb := hN.2.1.2
      refine fs_r_call (sta := false) (idx := 339) (as := [.inr (.ref 124), .inl h]) (rest := []) (L1 := [some (.inr (.ref 124)), some (.inl h), some (.inl x)]) (st1 := [.inl h, .inr (.ref 124)]) (M1 := M) (ob := []) rfl rfl rfl trivial rfl rfl (Nat.le_of_ble_eq_true rfl) ⟨Or.inr (Nat.le_of_ble_eq_true rfl), Or.inr fs_ob124⟩ (by decide) ?_
      refine fs_m_leastWith (by assumption) (by omega) (fun (V1 : fs_M) (v1 : mm_V M V1 (-1) 360 0 (-1) 0 100 (fs_shl 1 h)) (I1 : mm_I V1) (g3 : mm_J V1) (s1 : mm_st V1 = ec_lst (ec_fo (M 125) (fs_shl 1 h))) => ?_)
      refine fs_r_call (sta := false) (idx := 258) (as := [.inr (.ref 124), .inl x]) (rest := []) (L1 := [some (.inr (.ref 124)), some (.inl h), some (.inl x)]) (st1 := [.inl x, .inr (.ref 124)]) (M1 := V1) (ob := []) rfl rfl rfl trivial rfl rfl (Nat.le_of_ble_eq_true rfl) ⟨Or.inr (Nat.le_of_ble_eq_true rfl), Or.inr fs_ob124⟩ (by decide) ?_
      refine fs_m_told (I1) (by assumption) (by rw [v1.q.N]; assumption) ?_
      refine fs_r_iret (a := (ec_tell (mm_E V1) (mm_st V1) x)) (L1 := [some (.inr (.ref 124)), some (.inl h), some (.inl x)]) (M1 := V1) (ob := []) rfl rfl trivial (Or.inl rfl) ?_
      exact fs_qi (by unfold rq_domino; rw [if_pos ⟨by assumption, by assumption⟩, (v1.e hN).tell, s1]; rfl) (hq0 _ v1.q)
    refine fs_r_if (a := 0) (L1 := [some (.inr (.ref 124)), some (.inl h), some (.inl x)]) (st1 := []) (M1 := M) (ob := []) rfl rfl trivial (fun h => absurd h (by decide : ¬ (¬ (0 : Int) = 0))) (fun _ => ?_)
    refine fs_r_iret (a := (-1)) (L1 := [some (.inr (.ref 124)), some (.inl h), some (.inl x)]) (M1 := M) (ob := []) rfl rfl trivial (Or.inl rfl) ?_
    exact fs_qi (by unfold rq_domino; rw [if_neg (fun z => by first | exact absurd z (by assumption) | exact absurd z.1 (by assumption) | exact absurd z.2 (by assumption) | exact absurd z.2.1 (by assumption) | exact absurd z.2.2 (by assumption))]) (hq0 _ mm_q.rf)
  refine fs_r_if (a := 0) (L1 := [some (.inr (.ref 124)), some (.inl h), some (.inl x)]) (st1 := []) (M1 := M) (ob := []) rfl rfl trivial (fun _ => ?_) (fun h => absurd (by decide : (0 : Int) = 0) h)
  refine fs_r_iret (a := (-1)) (L1 := [some (.inr (.ref 124)), some (.inl h), some (.inl x)]) (M1 := M) (ob := []) rfl rfl trivial (Or.inl rfl) ?_
  exact fs_qi (by unfold rq_domino; rw [if_neg (fun z => by first | exact absurd z (by assumption) | exact absurd z.1 (by assumption) | exact absurd z.2 (by assumption) | exact absurd z.2.1 (by assumption) | exact absurd z.2.2 (by assumption))]) (hq0 _ mm_q.rf)

theorem fs_m_pulls {d : Nat} {M : fs_M} {Q : Option fs_V → fs_M → Prop} {h : Int}  (hI : fs_NI (M 125)) (hq0 : ∀ (M2 : fs_M), (mm_q M M2) → Q (some (.inl (rq_pulls (M 125) h))) M2) : fs_W (d + 9) 271 0 [some (.inr (.ref 124)), some (.inl h), none] [] M Q := by
  have hN := hI
  refine fs_r_call (sta := false) (idx := 237) (as := [.inr (.ref 124), .inl h]) (rest := []) (L1 := [some (.inr (.ref 124)), some (.inl h), none]) (st1 := [.inl h, .inr (.ref 124)]) (M1 := M) (ob := []) rfl rfl rfl trivial rfl rfl (Nat.le_of_ble_eq_true rfl) ⟨Or.inr (Nat.le_of_ble_eq_true rfl), Or.inr fs_ob124⟩ (by decide) ?_
  refine fs_m_isHouse (by assumption) (fun (f1 : 0 ≤ h ∧ h < M 125 1) => ?_) (fun (f2 : ¬ (0 ≤ h ∧ h < M 125 1)) => ?_)
  · refine fs_r_if (a := 1) (L1 := [some (.inr (.ref 124)), some (.inl h), none]) (st1 := []) (M1 := M) (ob := []) rfl rfl trivial (fun _ => ?_) (fun h => absurd (by decide : ¬ (1 : Int) = 0) h)
    refine fs_r_call (sta := false) (idx := 252) (as := [.inr (.ref 124)]) (rest := []) (L1 := [some (.inr (.ref 124)), some (.inl h), none]) (st1 := [.inr (.ref 124)]) (M1 := M) (ob := []) rfl rfl rfl trivial rfl rfl (Nat.le_of_ble_eq_true rfl) ⟨Or.inr (Nat.le_of_ble_eq_true rfl), Or.inr fs_ob124⟩ (by decide) ?_
    refine fs_m_plain (fun (P1 : fs_M) (pp : mm_P M P1) => ?_)
    have hb := hN.2.1.2
    have v0 := mm_V.P pp
    have i0 := v0.I hN (by omega) (by omega) (by omega) (by omega) (by omega)
    refine fs_r_call (sta := false) (idx := 255) (as := [.inr (.ref 124)]) (rest := []) (L1 := [some (.inr (.ref 124)), some (.inl h), none]) (st1 := [.inr (.ref 124)]) (M1 := P1) (ob := []) rfl rfl rfl trivial rfl rfl (Nat.le_of_ble_eq_true rfl) ⟨Or.inr (Nat.le_of_ble_eq_true rfl), Or.inr fs_ob124⟩ (by decide) ?_
    refine fs_m_least (i0) (fun (V1 : fs_M) (g1 : mm_f3 P1 V1) (g2 : mm_st V1 = ec_fix (mm_E P1) (ec_calm (mm_E P1))) (g3 : mm_J V1) (g4 : mm_Z V1) (g5 : V1 124 17 = (ec_k (mm_E P1) (ec_calm (mm_E P1)) : Nat)) => ?_)
    have v1 := v0.f3 g1
    have I1 := g1.I i0
    refine fs_r_call (sta := false) (idx := 339) (as := [.inr (.ref 124), .inl h]) (rest := []) (L1 := [some (.inr (.ref 124)), some (.inl h), some (.inl (V1 124 15))]) (st1 := [.inl h, .inr (.ref 124)]) (M1 := V1) (ob := [124 < fs_N ∧ fs_kd 124 = 6, 2 < 3]) rfl rfl rfl (fs_oc fs_ob124 (fs_oc (by decide) trivial)) rfl rfl (Nat.le_of_ble_eq_true rfl) ⟨Or.inr (Nat.le_of_ble_eq_true rfl), Or.inr fs_ob124⟩ (by decide) ?_
    refine fs_m_leastWith (by rw [v1.q.N]; exact hN) (by omega) (fun (V2 : fs_M) (v2 : mm_V V1 V2 (-1) 360 0 (-1) 0 100 (fs_shl 1 h)) (I2 : mm_I V2) (j2 : mm_J V2) (s2 : mm_st V2 = ec_lst (ec_fo (V1 125) (fs_shl 1 h))) => ?_)
    refine fs_r_iret (a := (fs_and (fs_and (V2 124 15) (fs_xor (V1 124 15) (-1))) (fs_xor (fs_shl 1 h) (-1)))) (L1 := [some (.inr (.ref 124)), some (.inl h), some (.inl (V1 124 15))]) (M1 := V2) (ob := [124 < fs_N ∧ fs_kd 124 = 6]) rfl (fs_exA 6 (o1 := [124 < fs_N ∧ fs_kd 124 = 6]) (L1 := [some (.inr (.ref 124)), some (.inl h), some (.inl (V1 124 15))]) (st1 := [.inl (fs_and (V2 124 15) (fs_xor (V1 124 15) (-1)))]) (M1 := V2) (o2 := []) rfl rfl) (fs_oc fs_ob124 trivial) (Or.inl rfl) ?_
    have e1 : V1 124 15 = ec_lst (ec_fo (M 125) 0) 4 := by
      rw [← mm_st_4 (M := V1), g2]
      exact congrFun (v0.lst hN i0) 4
    have e2 : V2 124 15 = ec_lst (ec_fo (M 125) (fs_shl 1 h)) 4 := by
      rw [← mm_st_4 (M := V2), s2, v1.q.N]
    exact fs_qi (by unfold rq_pulls; rw [if_pos (by assumption), ← e1, ← e2]) (hq0 _ (v1.q.tr v2.q))
  refine fs_r_if (a := 0) (L1 := [some (.inr (.ref 124)), some (.inl h), none]) (st1 := []) (M1 := M) (ob := []) rfl rfl trivial (fun h => absurd h (by decide : ¬ (¬ (0 : Int) = 0))) (fun _ => ?_)
  refine fs_r_iret (a := (-1)) (L1 := [some (.inr (.ref 124)), some (.inl h), none]) (M1 := M) (ob := []) rfl rfl trivial (Or.inl rfl) ?_
  exact fs_qi (by unfold rq_pulls; rw [if_neg (fun z => by first | exact absurd z (by assumption) | exact absurd z.1 (by assumption) | exact absurd z.2 (by assumption) | exact absurd z.2.1 (by assumption) | exact absurd z.2.2 (by assumption))]) (hq0 _ mm_q.rf)

theorem fs_m_doubtful {d : Nat} {M : fs_M} {Q : Option fs_V → fs_M → Prop}   (hI : fs_NI (M 125)) (hq0 : ∀ (M2 : fs_M), (mm_q M M2) → Q (some (.inl (rq_doubtful (M 125)))) M2) : fs_W (d + 8) 275 0 [some (.inr (.ref 124)), none] [] M Q := by
  have hN := hI
  refine fs_r_call (sta := false) (idx := 252) (as := [.inr (.ref 124)]) (rest := []) (L1 := [some (.inr (.ref 124)), none]) (st1 := [.inr (.ref 124)]) (M1 := M) (ob := []) rfl rfl rfl trivial rfl rfl (Nat.le_of_ble_eq_true rfl) ⟨Or.inr (Nat.le_of_ble_eq_true rfl), Or.inr fs_ob124⟩ (by decide) ?_
  refine fs_m_plain (fun (P1 : fs_M) (pp : mm_P M P1) => ?_)
  have v0 := mm_V.P pp
  have i0 := v0.I hN (by omega) (by omega) (by omega) (by omega) (by omega)
  refine fs_r_call (sta := false) (idx := 255) (as := [.inr (.ref 124)]) (rest := []) (L1 := [some (.inr (.ref 124)), none]) (st1 := [.inr (.ref 124)]) (M1 := P1) (ob := []) rfl rfl rfl trivial rfl rfl (Nat.le_of_ble_eq_true rfl) ⟨Or.inr (Nat.le_of_ble_eq_true rfl), Or.inr fs_ob124⟩ (by decide) ?_
  refine fs_m_least (i0) (fun (V1 : fs_M) (g1 : mm_f3 P1 V1) (g2 : mm_st V1 = ec_fix (mm_E P1) (ec_calm (mm_E P1))) (g3 : mm_J V1) (g4 : mm_Z V1) (g5 : V1 124 17 = (ec_k (mm_E P1) (ec_calm (mm_E P1)) : Nat)) => ?_)
  have v1 := v0.f3 g1
  have I1 := g1.I i0
  refine fs_r_call (sta := false) (idx := 270) (as := [.inr (.ref 124), .inl 2]) (rest := []) (L1 := [some (.inr (.ref 124)), some (.inl (V1 124 15))]) (st1 := [.inl 2, .inr (.ref 124)]) (M1 := V1) (ob := [124 < fs_N ∧ fs_kd 124 = 6, 1 < 2]) rfl rfl rfl (fs_oc fs_ob124 (fs_oc (by decide) trivial)) rfl rfl (Nat.le_of_ble_eq_true rfl) ⟨Or.inr (Nat.le_of_ble_eq_true rfl), Or.inr fs_ob124⟩ (by decide) ?_
  refine fs_m_stands (I1) (by omega) (fun (V2 : fs_M) (f2 : mm_f3 V1 V2) (s2 : mm_st V2 = ec_std (mm_E V1) 2) (j2 : mm_J V2) (z2 : mm_Z V2) (r2 : (2 = 1 → V2 124 17 = (ec_k (mm_E V1) (ec_calm (mm_E V1)) : Nat)) ∧ (2 = 2 → V2 124 17 = (ec_k (mm_E V1) (ec_panic (mm_E V1)) : Nat))) => ?_)
  refine fs_r_iret (a := (fs_and (V2 124 15) (fs_xor (V1 124 15) (-1)))) (L1 := [some (.inr (.ref 124)), some (.inl (V1 124 15))]) (M1 := V2) (ob := [124 < fs_N ∧ fs_kd 124 = 6]) rfl rfl (fs_oc fs_ob124 trivial) (Or.inl rfl) ?_
  have e1 : V1 124 15 = ec_lst (ec_fo (M 125) 0) 4 := by
    rw [← mm_st_4 (M := V1), g2]
    exact congrFun (v0.lst hN i0) 4
  have e2 : V2 124 15 = ec_std (ec_pl (M 125)) 2 4 := by
    rw [← mm_st_4 (M := V2), s2, g1.E, (pp.eq hN).std (pp.I hN).1.2.1.1 (mm_okc (pp.I hN)) (mm_okp (pp.I hN))]
  exact fs_qi (by unfold rq_doubtful; rw [← e1, ← e2]) (hq0 _ (v1.q.tr (mm_q.f3 f2)))

