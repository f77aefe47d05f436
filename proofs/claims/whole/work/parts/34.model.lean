/-! acts of the Model: what is kept to be taken back -/
def mm_rem (M M2 : fs_M) : Prop := (∀ r, r ≠ 124 → r ≠ 127 → M2 r = M r) ∧ (∀ i, i ≠ 4 → M2 124 i = M 124 i) ∧ M2 124 4 = (if M 124 4 = 12 then 12 else M 124 4 + 1) ∧
  (∀ j k, 0 ≤ j → j < M2 124 4 → 0 ≤ k → k < 139 → M2 127 (139 * j + k) = if j = M2 124 4 - 1 then M 125 k else if M 124 4 = 12 then M 127 (139 * (j + 1) + k) else M 127 (139 * j + k))
/-- an act: the row of now is another one, the old one is kept -/
def mm_act (M M2 : fs_M) (N2 : Int → Int) : Prop := ∃ M1, mm_rem M M1 ∧ (∀ r, r ≠ 125 → M2 r = M1 r) ∧ M2 125 = N2
theorem mm_act.of {M M1 M2 : fs_M} {N2 : Int → Int} (h : mm_rem M M1) (f : ∀ r, r ≠ 125 → M2 r = M1 r) (e : M2 125 = N2) : mm_act M M2 N2 := ⟨M1, h, f, e⟩
def up1 (N : Int → Int) (i v : Int) : Int → Int := fun q => if q = i then v else N q
theorem fs_up_self {M : fs_M} {r : Nat} {i v : Int} : fs_up M r i v r = up1 (M r) i v := by
  funext q
  rw [fs_up_at]
  rfl
theorem fs_m_remembers {d : Nat} {M : fs_M} {Q : Option fs_V → fs_M → Prop}   (hc : 0 ≤ M 124 4 ∧ M 124 4 ≤ 12) (hq0 : ∀ (M2 : fs_M), (mm_rem M M2) → Q none M2) : fs_W (d) 205 0 [some (.inr (.ref 124)), none] [] M Q := by
  have hc0 := hc.1
  have hc1 := hc.2
  refine fs_r_icmp (a := (M 124 4)) (y := 12) (L1 := [some (.inr (.ref 124)), none]) (st1 := []) (M1 := M) (ob := [124 < fs_N ∧ fs_kd 124 = 6]) rfl rfl (fs_oc fs_ob124 trivial) (fun (h1 : ¬ (M 124 4) = 12) => ?_) (fun (h1 : ¬ (¬ (M 124 4) = 12)) => ?_)
  · refine fs_r_nop (L1 := [some (.inr (.ref 124)), some (.inl 0)]) (st1 := []) (M1 := M) (ob := [1 < 2]) rfl rfl (fs_oc (by decide) trivial) ?_
    have loop52 : ∀ (n52 : Nat) (i : Int) (M5 : fs_M), (0 ≤ i ∧ i ≤ 139) → (∀ r, r ≠ 124 → r ≠ 127 → M5 r = M r) → (∀ i, i ≠ 4 → M5 124 i = M 124 i) → (M5 124 4 = (if M 124 4 = 12 then 11 else M 124 4)) → (∀ j k, 0 ≤ j → j < (if M 124 4 = 12 then 11 else M 124 4) → 0 ≤ k → k < 139 → M5 127 (139 * j + k) = if M 124 4 = 12 then M 127 (139 * (j + 1) + k) else M 127 (139 * j + k)) → (∀ k, 0 ≤ k → k < i → M5 127 (139 * (if M 124 4 = 12 then 11 else M 124 4) + k) = M 125 k) → 139 - i < (n52 : Int) → fs_W (d) 205 52 [some (.inr (.ref 124)), some (.inl i)] [] M5 Q := by
      intro n52
      induction n52 with
      | zero =>
        intro i M5 j0 f5 g5 c5 a5 b5 hm52
        exfalso
        omega
      | succ n52 ih52 =>
        intro i M5 j0 f5 g5 c5 a5 b5 hm52
        have cc : 0 ≤ (if M 124 4 = 12 then 11 else M 124 4) ∧ (if M 124 4 = 12 then 11 else M 124 4) ≤ 11 := by split <;> omega
        have n5 := f5 125 (by decide) (by decide)
        refine fs_r_icmp (a := i) (y := 139) (L1 := [some (.inr (.ref 124)), some (.inl i)]) (st1 := []) (M1 := M5) (ob := []) rfl rfl trivial (fun (h2 : 139 ≤ i) => ?_) (fun (h2 : ¬ (139 ≤ i)) => ?_)
        · have c7 : 0 ≤ M5 124 4 ∧ M5 124 4 ≤ 11 := by rw [c5]; exact cc
          refine fs_r_ret (L1 := [some (.inr (.ref 124)), some (.inl i)]) (M1 := (fs_up M5 124 4 ((M5 124 4) + 1))) (ob := [124 < fs_N ∧ fs_kd 124 = 6, fs_rg ((M5 124 4) + 1), 124 < fs_N ∧ fs_kd 124 = 6]) rfl rfl (fs_oc fs_ob124 (fs_oc ⟨by omega, by omega⟩ (fs_oc fs_ob124 trivial))) ?_
          refine hq0 _ ⟨fun r q1 q2 => by rw [fs_up_other q1]; exact f5 r q1 q2, fun i q => by rw [fs_up_at, if_neg q]; exact g5 i q, by rw [fs_up_at, if_pos rfl, c5]; by_cases z : M 124 4 = 12 <;> simp [z], fun j k q0 q1 q2 q3 => ?_⟩
          rw [fs_up_at, if_pos rfl] at q1 ⊢
          rw [fs_up_other (by decide)]
          rcases (show j = M5 124 4 ∨ j < M5 124 4 by omega) with z | z
          · rw [if_pos (by omega), z, c5]
            exact b5 k q2 (by omega)
          · rw [if_neg (by omega)]
            rw [c5] at z
            exact a5 j k q0 z q2 q3
        have c6 := c5
        have c7 : 0 ≤ M5 124 4 ∧ M5 124 4 ≤ 11 := by rw [c5]; exact cc
        refine fs_r_goto (L1 := [some (.inr (.ref 124)), some (.inl (i + 1))]) (st1 := []) (M1 := (fs_up M5 127 ((139 * (M5 124 4)) + i) (M5 125 i))) (ob := [124 < fs_N ∧ fs_kd 124 = 6, 124 < fs_N ∧ fs_kd 124 = 6, fs_rg (139 * (M5 124 4)), fs_rg ((139 * (M5 124 4)) + i), 124 < fs_N ∧ fs_kd 124 = 6, (125 < fs_N ∧ fs_kd 125 = 100) ∧ (0 : Int) ≤ i ∧ i < fs_ln 125, (127 < fs_N ∧ fs_kd 127 = 100) ∧ (0 : Int) ≤ ((139 * (M5 124 4)) + i) ∧ ((139 * (M5 124 4)) + i) < fs_ln 127, fs_rg (i + 1)]) rfl (fs_exA 6 (o1 := [124 < fs_N ∧ fs_kd 124 = 6, 124 < fs_N ∧ fs_kd 124 = 6, fs_rg (139 * (M5 124 4))]) (L1 := [some (.inr (.ref 124)), some (.inl i)]) (st1 := [.inl (139 * (M5 124 4)), .inr (.ref 127)]) (M1 := M5) (o2 := [fs_rg ((139 * (M5 124 4)) + i), 124 < fs_N ∧ fs_kd 124 = 6, (125 < fs_N ∧ fs_kd 125 = 100) ∧ (0 : Int) ≤ i ∧ i < fs_ln 125, (127 < fs_N ∧ fs_kd 127 = 100) ∧ (0 : Int) ≤ ((139 * (M5 124 4)) + i) ∧ ((139 * (M5 124 4)) + i) < fs_ln 127, fs_rg (i + 1)]) rfl (fs_exA 6 (o1 := [fs_rg ((139 * (M5 124 4)) + i), 124 < fs_N ∧ fs_kd 124 = 6, (125 < fs_N ∧ fs_kd 125 = 100) ∧ (0 : Int) ≤ i ∧ i < fs_ln 125]) (L1 := [some (.inr (.ref 124)), some (.inl i)]) (st1 := [.inl (M5 125 i), .inl ((139 * (M5 124 4)) + i), .inr (.ref 127)]) (M1 := M5) (o2 := [(127 < fs_N ∧ fs_kd 127 = 100) ∧ (0 : Int) ≤ ((139 * (M5 124 4)) + i) ∧ ((139 * (M5 124 4)) + i) < fs_ln 127, fs_rg (i + 1)]) rfl rfl)) (fs_oc fs_ob124 (fs_oc fs_ob124 (fs_oc ⟨by omega, by omega⟩ (fs_oc ⟨by omega, by omega⟩ (fs_oc fs_ob124 (fs_oc (fs_ar125 (by omega) (by omega)) (fs_oc (fs_ar127 (by omega) (by omega)) (fs_oc ⟨by omega, by omega⟩ trivial)))))))) ?_
        exact ih52 ((i + 1)) (fs_up M5 127 ((139 * (M5 124 4)) + i) (M5 125 i)) (by omega) (fun r q1 q2 => by rw [fs_up_other q2]; exact f5 r q1 q2) (fun i q => by rw [fs_up_other (by decide)]; exact g5 i q) (by rw [fs_up_other (by decide)]; exact c5) (fun j k q0 q1 q2 q3 => by rw [fs_up_at, if_neg (by rw [c5]; omega)]; exact a5 j k q0 q1 q2 q3) (fun k q0 q1 => by rw [fs_up_at, c5]; by_cases z : k = i; (rw [if_pos (by rw [z]), n5, z]); (rw [if_neg (by omega)]; exact b5 k q0 (by omega))) (by omega)
    exact loop52 (((139 - (0)) : Int) + 1).toNat (0) M (by omega) (by first | exact fun r _ _ => rfl | exact fun r q1 q2 => by rw [fs_up_other q1]; exact f3 r q2) (by first | exact fun i _ => rfl | exact fun i q => by rw [fs_up_at, if_neg q, f3 124 (by decide)]) (by first | (rw [if_neg (by omega)]; done) | (rw [fs_up_at, if_pos rfl, f3 124 (by decide), if_pos (by omega)]; omega)) (by first | (rw [if_neg (by omega)]; exact fun j k _ _ _ _ => by rw [if_neg (by omega)]) | (rw [if_pos (by omega)]; exact fun j k q0 q1 q2 q3 => by rw [if_pos (by omega), fs_up_other (by decide), a3 _ (by omega) (by omega)]; congr 1; omega)) (fun k q0 q1 => by omega) (by omega)
  refine fs_r_nop (L1 := [some (.inr (.ref 124)), some (.inl 0)]) (st1 := []) (M1 := M) (ob := [1 < 2]) rfl rfl (fs_oc (by decide) trivial) ?_
  have loop11 : ∀ (n11 : Nat) (i : Int) (M3 : fs_M), (0 ≤ i ∧ i ≤ 1529) → (∀ r, r ≠ 127 → M3 r = M r) → (∀ q, 0 ≤ q → q < i → M3 127 q = M 127 (q + 139)) → (∀ q, i ≤ q → M3 127 q = M 127 q) → 1529 - i < (n11 : Int) → fs_W (d) 205 11 [some (.inr (.ref 124)), some (.inl i)] [] M3 Q := by
    intro n11
    induction n11 with
    | zero =>
      intro i M3 i0 f3 a3 b3 hm11
      exfalso
      omega
    | succ n11 ih11 =>
      intro i M3 i0 f3 a3 b3 hm11
      refine fs_r_icmp (a := i) (y := 1529) (L1 := [some (.inr (.ref 124)), some (.inl i)]) (st1 := []) (M1 := M3) (ob := []) rfl rfl trivial (fun (h3 : 1529 ≤ i) => ?_) (fun (h3 : ¬ (1529 ≤ i)) => ?_)
      · have k4 := congrFun (f3 124 (by decide)) 4
        refine fs_r_nop (L1 := [some (.inr (.ref 124)), some (.inl i)]) (st1 := []) (M1 := (fs_up M3 124 4 ((M3 124 4) - 1))) (ob := [124 < fs_N ∧ fs_kd 124 = 6, fs_rg ((M3 124 4) - 1), 124 < fs_N ∧ fs_kd 124 = 6]) rfl rfl (fs_oc fs_ob124 (fs_oc ⟨by omega, by omega⟩ (fs_oc fs_ob124 trivial))) ?_
        refine fs_r_nop (L1 := [some (.inr (.ref 124)), some (.inl 0)]) (st1 := []) (M1 := (fs_up M3 124 4 ((M3 124 4) - 1))) (ob := [1 < 2]) rfl rfl (fs_oc (by decide) trivial) ?_
        have loop52 : ∀ (n52 : Nat) (i : Int) (M5 : fs_M), (0 ≤ i ∧ i ≤ 139) → (∀ r, r ≠ 124 → r ≠ 127 → M5 r = M r) → (∀ i, i ≠ 4 → M5 124 i = M 124 i) → (M5 124 4 = (if M 124 4 = 12 then 11 else M 124 4)) → (∀ j k, 0 ≤ j → j < (if M 124 4 = 12 then 11 else M 124 4) → 0 ≤ k → k < 139 → M5 127 (139 * j + k) = if M 124 4 = 12 then M 127 (139 * (j + 1) + k) else M 127 (139 * j + k)) → (∀ k, 0 ≤ k → k < i → M5 127 (139 * (if M 124 4 = 12 then 11 else M 124 4) + k) = M 125 k) → 139 - i < (n52 : Int) → fs_W (d) 205 52 [some (.inr (.ref 124)), some (.inl i)] [] M5 Q := by
          intro n52
          induction n52 with
          | zero =>
            intro i M5 j0 f5 g5 c5 a5 b5 hm52
            exfalso
            omega
          | succ n52 ih52 =>
            intro i M5 j0 f5 g5 c5 a5 b5 hm52
            have cc : 0 ≤ (if M 124 4 = 12 then 11 else M 124 4) ∧ (if M 124 4 = 12 then 11 else M 124 4) ≤ 11 := by split <;> omega
            have n5 := f5 125 (by decide) (by decide)
            refine fs_r_icmp (a := i) (y := 139) (L1 := [some (.inr (.ref 124)), some (.inl i)]) (st1 := []) (M1 := M5) (ob := []) rfl rfl trivial (fun (h4 : 139 ≤ i) => ?_) (fun (h4 : ¬ (139 ≤ i)) => ?_)
            · have c7 : 0 ≤ M5 124 4 ∧ M5 124 4 ≤ 11 := by rw [c5]; exact cc
              refine fs_r_ret (L1 := [some (.inr (.ref 124)), some (.inl i)]) (M1 := (fs_up M5 124 4 ((M5 124 4) + 1))) (ob := [124 < fs_N ∧ fs_kd 124 = 6, fs_rg ((M5 124 4) + 1), 124 < fs_N ∧ fs_kd 124 = 6]) rfl rfl (fs_oc fs_ob124 (fs_oc ⟨by omega, by omega⟩ (fs_oc fs_ob124 trivial))) ?_
              refine hq0 _ ⟨fun r q1 q2 => by rw [fs_up_other q1]; exact f5 r q1 q2, fun i q => by rw [fs_up_at, if_neg q]; exact g5 i q, by rw [fs_up_at, if_pos rfl, c5]; by_cases z : M 124 4 = 12 <;> simp [z], fun j k q0 q1 q2 q3 => ?_⟩
              rw [fs_up_at, if_pos rfl] at q1 ⊢
              rw [fs_up_other (by decide)]
              rcases (show j = M5 124 4 ∨ j < M5 124 4 by omega) with z | z
              · rw [if_pos (by omega), z, c5]
                exact b5 k q2 (by omega)
              · rw [if_neg (by omega)]
                rw [c5] at z
                exact a5 j k q0 z q2 q3
            have c6 := c5
            have c7 : 0 ≤ M5 124 4 ∧ M5 124 4 ≤ 11 := by rw [c5]; exact cc
            refine fs_r_goto (L1 := [some (.inr (.ref 124)), some (.inl (i + 1))]) (st1 := []) (M1 := (fs_up M5 127 ((139 * (M5 124 4)) + i) (M5 125 i))) (ob := [124 < fs_N ∧ fs_kd 124 = 6, 124 < fs_N ∧ fs_kd 124 = 6, fs_rg (139 * (M5 124 4)), fs_rg ((139 * (M5 124 4)) + i), 124 < fs_N ∧ fs_kd 124 = 6, (125 < fs_N ∧ fs_kd 125 = 100) ∧ (0 : Int) ≤ i ∧ i < fs_ln 125, (127 < fs_N ∧ fs_kd 127 = 100) ∧ (0 : Int) ≤ ((139 * (M5 124 4)) + i) ∧ ((139 * (M5 124 4)) + i) < fs_ln 127, fs_rg (i + 1)]) rfl (fs_exA 6 (o1 := [124 < fs_N ∧ fs_kd 124 = 6, 124 < fs_N ∧ fs_kd 124 = 6, fs_rg (139 * (M5 124 4))]) (L1 := [some (.inr (.ref 124)), some (.inl i)]) (st1 := [.inl (139 * (M5 124 4)), .inr (.ref 127)]) (M1 := M5) (o2 := [fs_rg ((139 * (M5 124 4)) + i), 124 < fs_N ∧ fs_kd 124 = 6, (125 < fs_N ∧ fs_kd 125 = 100) ∧ (0 : Int) ≤ i ∧ i < fs_ln 125, (127 < fs_N ∧ fs_kd 127 = 100) ∧ (0 : Int) ≤ ((139 * (M5 124 4)) + i) ∧ ((139 * (M5 124 4)) + i) < fs_ln 127, fs_rg (i + 1)]) rfl (fs_exA 6 (o1 := [fs_rg ((139 * (M5 124 4)) + i), 124 < fs_N ∧ fs_kd 124 = 6, (125 < fs_N ∧ fs_kd 125 = 100) ∧ (0 : Int) ≤ i ∧ i < fs_ln 125]) (L1 := [some (.inr (.ref 124)), some (.inl i)]) (st1 := [.inl (M5 125 i), .inl ((139 * (M5 124 4)) + i), .inr (.ref 127)]) (M1 := M5) (o2 := [(127 < fs_N ∧ fs_kd 127 = 100) ∧ (0 : Int) ≤ ((139 * (M5 124 4)) + i) ∧ ((139 * (M5 124 4)) + i) < fs_ln 127, fs_rg (i + 1)]) rfl rfl)) (fs_oc fs_ob124 (fs_oc fs_ob124 (fs_oc ⟨by omega, by omega⟩ (fs_oc ⟨by omega, by omega⟩ (fs_oc fs_ob124 (fs_oc (fs_ar125 (by omega) (by omega)) (fs_oc (fs_ar127 (by omega) (by omega)) (fs_oc ⟨by omega, by omega⟩ trivial)))))))) ?_
            exact ih52 ((i + 1)) (fs_up M5 127 ((139 * (M5 124 4)) + i) (M5 125 i)) (by omega) (fun r q1 q2 => by rw [fs_up_other q2]; exact f5 r q1 q2) (fun i q => by rw [fs_up_other (by decide)]; exact g5 i q) (by rw [fs_up_other (by decide)]; exact c5) (fun j k q0 q1 q2 q3 => by rw [fs_up_at, if_neg (by rw [c5]; omega)]; exact a5 j k q0 q1 q2 q3) (fun k q0 q1 => by rw [fs_up_at, c5]; by_cases z : k = i; (rw [if_pos (by rw [z]), n5, z]); (rw [if_neg (by omega)]; exact b5 k q0 (by omega))) (by omega)
        exact loop52 (((139 - (0)) : Int) + 1).toNat (0) (fs_up M3 124 4 ((M3 124 4) - 1)) (by omega) (by first | exact fun r _ _ => rfl | exact fun r q1 q2 => by rw [fs_up_other q1]; exact f3 r q2) (by first | exact fun i _ => rfl | exact fun i q => by rw [fs_up_at, if_neg q, f3 124 (by decide)]) (by first | (rw [if_neg (by omega)]; done) | (rw [fs_up_at, if_pos rfl, f3 124 (by decide), if_pos (by omega)]; omega)) (by first | (rw [if_neg (by omega)]; exact fun j k _ _ _ _ => by rw [if_neg (by omega)]) | (rw [if_pos (by omega)]; exact fun j k q0 q1 q2 q3 => by rw [if_pos (by omega), fs_up_other (by decide), a3 _ (by omega) (by omega)]; congr 1; omega)) (fun k q0 q1 => by omega) (by omega)
      refine fs_r_goto (L1 := [some (.inr (.ref 124)), some (.inl (i + 1))]) (st1 := []) (M1 := (fs_up M3 127 i (M3 127 (i + 139)))) (ob := [124 < fs_N ∧ fs_kd 124 = 6, 124 < fs_N ∧ fs_kd 124 = 6, fs_rg (i + 139), (127 < fs_N ∧ fs_kd 127 = 100) ∧ (0 : Int) ≤ (i + 139) ∧ (i + 139) < fs_ln 127, (127 < fs_N ∧ fs_kd 127 = 100) ∧ (0 : Int) ≤ i ∧ i < fs_ln 127, fs_rg (i + 1)]) rfl (fs_exA 6 (o1 := [124 < fs_N ∧ fs_kd 124 = 6, 124 < fs_N ∧ fs_kd 124 = 6]) (L1 := [some (.inr (.ref 124)), some (.inl i)]) (st1 := [.inl i, .inr (.ref 127), .inl i, .inr (.ref 127)]) (M1 := M3) (o2 := [fs_rg (i + 139), (127 < fs_N ∧ fs_kd 127 = 100) ∧ (0 : Int) ≤ (i + 139) ∧ (i + 139) < fs_ln 127, (127 < fs_N ∧ fs_kd 127 = 100) ∧ (0 : Int) ≤ i ∧ i < fs_ln 127, fs_rg (i + 1)]) rfl rfl) (fs_oc fs_ob124 (fs_oc fs_ob124 (fs_oc ⟨by omega, by omega⟩ (fs_oc (fs_ar127 (by omega) (by omega)) (fs_oc (fs_ar127 (by omega) (by omega)) (fs_oc ⟨by omega, by omega⟩ trivial)))))) ?_
      exact ih11 ((i + 1)) (fs_up M3 127 i (M3 127 (i + 139))) (by omega) (fun r q => by rw [fs_up_other q]; exact f3 r q) (fun q q0 q1 => by rw [fs_up_at]; split; (rename_i z; rw [z]; exact b3 _ (by omega)); exact a3 q q0 (by omega)) (fun q q0 => by rw [fs_up_at, if_neg (by omega)]; exact b3 q (by omega)) (by omega)
  exact loop11 (((1529 - (0)) : Int) + 1).toNat (0) M (by omega) (fun r q => rfl) (fun q q0 q1 => by omega) (fun q _ => rfl) (by omega)

theorem fs_m_puts {d : Nat} {M : fs_M} {Q : Option fs_V → fs_M → Prop} {p : Int} {v : Int}  (hc : 0 ≤ M 124 4 ∧ M 124 4 ≤ 12) (hp : 0 ≤ p ∧ p < 139) (hq0 : ∀ (M2 : fs_M), (mm_act M M2 (up1 (M 125) p v)) → Q (some (.inl (M 125 p))) M2) : fs_W (d + 1) 206 0 [some (.inr (.ref 124)), some (.inl p), some (.inl v), none] [] M Q := by
  refine fs_r_call (sta := false) (idx := 234) (as := [.inr (.ref 124)]) (rest := []) (L1 := [some (.inr (.ref 124)), some (.inl p), some (.inl v), none]) (st1 := [.inr (.ref 124)]) (M1 := M) (ob := []) rfl rfl rfl trivial rfl rfl (Nat.le_of_ble_eq_true rfl) ⟨Or.inr (Nat.le_of_ble_eq_true rfl), Or.inr fs_ob124⟩ (by decide) ?_
  refine fs_m_remembers (by assumption) (fun (V1 : fs_M) (r1 : mm_rem M V1) => ?_)
  have n1 := r1.1 125 (by decide) (by decide)
  refine fs_r_iret (a := (V1 125 p)) (L1 := [some (.inr (.ref 124)), some (.inl p), some (.inl v), some (.inl (V1 125 p))]) (M1 := (fs_up V1 125 p v)) (ob := [124 < fs_N ∧ fs_kd 124 = 6, (125 < fs_N ∧ fs_kd 125 = 100) ∧ (0 : Int) ≤ p ∧ p < fs_ln 125, 3 < 4, 124 < fs_N ∧ fs_kd 124 = 6, (125 < fs_N ∧ fs_kd 125 = 100) ∧ (0 : Int) ≤ p ∧ p < fs_ln 125]) rfl (fs_exA 6 (o1 := [124 < fs_N ∧ fs_kd 124 = 6, (125 < fs_N ∧ fs_kd 125 = 100) ∧ (0 : Int) ≤ p ∧ p < fs_ln 125, 3 < 4]) (L1 := [some (.inr (.ref 124)), some (.inl p), some (.inl v), some (.inl (V1 125 p))]) (st1 := [.inr (.ref 124)]) (M1 := V1) (o2 := [124 < fs_N ∧ fs_kd 124 = 6, (125 < fs_N ∧ fs_kd 125 = 100) ∧ (0 : Int) ≤ p ∧ p < fs_ln 125]) rfl rfl) (fs_oc fs_ob124 (fs_oc (fs_ar125 (by omega) (by omega)) (fs_oc (by decide) (fs_oc fs_ob124 (fs_oc (fs_ar125 (by omega) (by omega)) trivial))))) (Or.inl rfl) ?_
  rw [n1]
  exact hq0 _ (mm_act.of r1 (fun r q => fs_up_other q) (by rw [fs_up_self, n1]))
