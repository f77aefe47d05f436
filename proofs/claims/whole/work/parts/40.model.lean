def cl_row (N : Int → Int) (h : Int) : Int → Int := fun q => if (10 + 5 * h ≤ q ∧ q < 10 + 5 * h + 5) ∨ (40 + 4 * h ≤ q ∧ q < 40 + 4 * h + 4) ∨ (64 + 6 * h ≤ q ∧ q < 64 + 6 * h + 6) then 0 else N q
theorem fs_m_clears {d : Nat} {M : fs_M} {Q : Option fs_V → fs_M → Prop} {h : Int}  (hh : 0 ≤ h ∧ h < 6) (hq0 : ∀ (M2 : fs_M), (∀ r, r ≠ 125 → M2 r = M r) → (M2 125 = cl_row (M 125) h) → Q none M2) : fs_W (d) 218 0 [some (.inr (.ref 124)), some (.inl h), none] [] M Q := by
  refine fs_r_nop (L1 := [some (.inr (.ref 124)), some (.inl h), some (.inl 0)]) (st1 := []) (M1 := M) (ob := [2 < 3]) rfl rfl (fs_oc (by decide) trivial) ?_
  have loop2 : ∀ (n2 : Nat) (k : Int) (MA : fs_M), (0 ≤ k ∧ k ≤ 5) → (∀ r, r ≠ 125 → MA r = M r) → (∀ q, MA 125 q = if ((10 + 5 * h ≤ q ∧ q < 10 + 5 * h + k)) then 0 else M 125 q) → 5 - k < (n2 : Int) → fs_W (d) 218 2 [some (.inr (.ref 124)), some (.inl h), some (.inl k)] [] MA Q := by
    intro n2
    induction n2 with
    | zero =>
      intro k MA iMA fMA nMA hm2
      exfalso
      omega
    | succ n2 ih2 =>
      intro k MA iMA fMA nMA hm2
      refine fs_r_icmp (a := k) (y := 5) (L1 := [some (.inr (.ref 124)), some (.inl h), some (.inl k)]) (st1 := []) (M1 := MA) (ob := []) rfl rfl trivial (fun (h1 : 5 ≤ k) => ?_) (fun (h1 : ¬ (5 ≤ k)) => ?_)
      · refine fs_r_nop (L1 := [some (.inr (.ref 124)), some (.inl h), some (.inl 0)]) (st1 := []) (M1 := MA) (ob := [2 < 3]) rfl rfl (fs_oc (by decide) trivial) ?_
        have loop29 : ∀ (n29 : Nat) (k : Int) (MB : fs_M), (0 ≤ k ∧ k ≤ 4) → (∀ r, r ≠ 125 → MB r = M r) → (∀ q, MB 125 q = if ((10 + 5 * h ≤ q ∧ q < 10 + 5 * h + 5) ∨ (40 + 4 * h ≤ q ∧ q < 40 + 4 * h + k)) then 0 else M 125 q) → 4 - k < (n29 : Int) → fs_W (d) 218 29 [some (.inr (.ref 124)), some (.inl h), some (.inl k)] [] MB Q := by
          intro n29
          induction n29 with
          | zero =>
            intro k MB iMB fMB nMB hm29
            exfalso
            omega
          | succ n29 ih29 =>
            intro k MB iMB fMB nMB hm29
            refine fs_r_icmp (a := k) (y := 4) (L1 := [some (.inr (.ref 124)), some (.inl h), some (.inl k)]) (st1 := []) (M1 := MB) (ob := []) rfl rfl trivial (fun (h2 : 4 ≤ k) => ?_) (fun (h2 : ¬ (4 ≤ k)) => ?_)
            · refine fs_r_nop (L1 := [some (.inr (.ref 124)), some (.inl h), some (.inl 0)]) (st1 := []) (M1 := MB) (ob := [2 < 3]) rfl rfl (fs_oc (by decide) trivial) ?_
              have loop56 : ∀ (n56 : Nat) (k : Int) (MC : fs_M), (0 ≤ k ∧ k ≤ 6) → (∀ r, r ≠ 125 → MC r = M r) → (∀ q, MC 125 q = if ((10 + 5 * h ≤ q ∧ q < 10 + 5 * h + 5) ∨ (40 + 4 * h ≤ q ∧ q < 40 + 4 * h + 4) ∨ (64 + 6 * h ≤ q ∧ q < 64 + 6 * h + k)) then 0 else M 125 q) → 6 - k < (n56 : Int) → fs_W (d) 218 56 [some (.inr (.ref 124)), some (.inl h), some (.inl k)] [] MC Q := by
                intro n56
                induction n56 with
                | zero =>
                  intro k MC iMC fMC nMC hm56
                  exfalso
                  omega
                | succ n56 ih56 =>
                  intro k MC iMC fMC nMC hm56
                  refine fs_r_icmp (a := k) (y := 6) (L1 := [some (.inr (.ref 124)), some (.inl h), some (.inl k)]) (st1 := []) (M1 := MC) (ob := []) rfl rfl trivial (fun (h3 : 6 ≤ k) => ?_) (fun (h3 : ¬ (6 ≤ k)) => ?_)
                  · refine fs_r_ret (L1 := [some (.inr (.ref 124)), some (.inl h), some (.inl k)]) (M1 := MC) (ob := []) rfl rfl trivial ?_
                    exact hq0 _ fMC (by funext q; rw [nMC q]; unfold cl_row; split <;> split <;> first | rfl | (exfalso; omega))
                  refine fs_r_goto (L1 := [some (.inr (.ref 124)), some (.inl h), some (.inl (k + 1))]) (st1 := []) (M1 := (fs_up MC 125 ((64 + (6 * h)) + k) 0)) (ob := [124 < fs_N ∧ fs_kd 124 = 6, fs_rg (6 * h), fs_rg (64 + (6 * h)), fs_rg ((64 + (6 * h)) + k), (125 < fs_N ∧ fs_kd 125 = 100) ∧ (0 : Int) ≤ ((64 + (6 * h)) + k) ∧ ((64 + (6 * h)) + k) < fs_ln 125, fs_rg (k + 1)]) rfl (fs_exA 6 (o1 := [124 < fs_N ∧ fs_kd 124 = 6, fs_rg (6 * h)]) (L1 := [some (.inr (.ref 124)), some (.inl h), some (.inl k)]) (st1 := [.inl (6 * h), .inl 64, .inr (.ref 125)]) (M1 := MC) (o2 := [fs_rg (64 + (6 * h)), fs_rg ((64 + (6 * h)) + k), (125 < fs_N ∧ fs_kd 125 = 100) ∧ (0 : Int) ≤ ((64 + (6 * h)) + k) ∧ ((64 + (6 * h)) + k) < fs_ln 125, fs_rg (k + 1)]) rfl rfl) (fs_oc fs_ob124 (fs_oc ⟨by omega, by omega⟩ (fs_oc ⟨by omega, by omega⟩ (fs_oc ⟨by omega, by omega⟩ (fs_oc (fs_ar125 (by omega) (by omega)) (fs_oc ⟨by omega, by omega⟩ trivial)))))) ?_
                  exact ih56 ((k + 1)) (fs_up MC 125 ((64 + (6 * h)) + k) 0) (by omega) (fun r q => by rw [fs_up_other q]; exact fMC r q) (fun q => by rw [fs_up_at, nMC q]; split <;> split <;> first | rfl | (split <;> first | rfl | (exfalso; omega)) | (exfalso; omega)) (by omega)
              exact loop56 (((6 - (0)) : Int) + 1).toNat (0) MB (by omega) (fMB) (fun q => by rw [nMB q]; split <;> split <;> first | rfl | (exfalso; omega)) (by omega)
            refine fs_r_goto (L1 := [some (.inr (.ref 124)), some (.inl h), some (.inl (k + 1))]) (st1 := []) (M1 := (fs_up MB 125 ((40 + (4 * h)) + k) 0)) (ob := [124 < fs_N ∧ fs_kd 124 = 6, fs_rg (4 * h), fs_rg (40 + (4 * h)), fs_rg ((40 + (4 * h)) + k), (125 < fs_N ∧ fs_kd 125 = 100) ∧ (0 : Int) ≤ ((40 + (4 * h)) + k) ∧ ((40 + (4 * h)) + k) < fs_ln 125, fs_rg (k + 1)]) rfl (fs_exA 6 (o1 := [124 < fs_N ∧ fs_kd 124 = 6, fs_rg (4 * h)]) (L1 := [some (.inr (.ref 124)), some (.inl h), some (.inl k)]) (st1 := [.inl (4 * h), .inl 40, .inr (.ref 125)]) (M1 := MB) (o2 := [fs_rg (40 + (4 * h)), fs_rg ((40 + (4 * h)) + k), (125 < fs_N ∧ fs_kd 125 = 100) ∧ (0 : Int) ≤ ((40 + (4 * h)) + k) ∧ ((40 + (4 * h)) + k) < fs_ln 125, fs_rg (k + 1)]) rfl rfl) (fs_oc fs_ob124 (fs_oc ⟨by omega, by omega⟩ (fs_oc ⟨by omega, by omega⟩ (fs_oc ⟨by omega, by omega⟩ (fs_oc (fs_ar125 (by omega) (by omega)) (fs_oc ⟨by omega, by omega⟩ trivial)))))) ?_
            exact ih29 ((k + 1)) (fs_up MB 125 ((40 + (4 * h)) + k) 0) (by omega) (fun r q => by rw [fs_up_other q]; exact fMB r q) (fun q => by rw [fs_up_at, nMB q]; split <;> split <;> first | rfl | (split <;> first | rfl | (exfalso; omega)) | (exfalso; omega)) (by omega)
        exact loop29 (((4 - (0)) : Int) + 1).toNat (0) MA (by omega) (fMA) (fun q => by rw [nMA q]; split <;> split <;> first | rfl | (exfalso; omega)) (by omega)
      refine fs_r_goto (L1 := [some (.inr (.ref 124)), some (.inl h), some (.inl (k + 1))]) (st1 := []) (M1 := (fs_up MA 125 ((10 + (5 * h)) + k) 0)) (ob := [124 < fs_N ∧ fs_kd 124 = 6, fs_rg (5 * h), fs_rg (10 + (5 * h)), fs_rg ((10 + (5 * h)) + k), (125 < fs_N ∧ fs_kd 125 = 100) ∧ (0 : Int) ≤ ((10 + (5 * h)) + k) ∧ ((10 + (5 * h)) + k) < fs_ln 125, fs_rg (k + 1)]) rfl (fs_exA 6 (o1 := [124 < fs_N ∧ fs_kd 124 = 6, fs_rg (5 * h)]) (L1 := [some (.inr (.ref 124)), some (.inl h), some (.inl k)]) (st1 := [.inl (5 * h), .inl 10, .inr (.ref 125)]) (M1 := MA) (o2 := [fs_rg (10 + (5 * h)), fs_rg ((10 + (5 * h)) + k), (125 < fs_N ∧ fs_kd 125 = 100) ∧ (0 : Int) ≤ ((10 + (5 * h)) + k) ∧ ((10 + (5 * h)) + k) < fs_ln 125, fs_rg (k + 1)]) rfl rfl) (fs_oc fs_ob124 (fs_oc ⟨by omega, by omega⟩ (fs_oc ⟨by omega, by omega⟩ (fs_oc ⟨by omega, by omega⟩ (fs_oc (fs_ar125 (by omega) (by omega)) (fs_oc ⟨by omega, by omega⟩ trivial)))))) ?_
      exact ih2 ((k + 1)) (fs_up MA 125 ((10 + (5 * h)) + k) 0) (by omega) (fun r q => by rw [fs_up_other q]; exact fMA r q) (fun q => by rw [fs_up_at, nMA q]; split <;> split <;> first | rfl | (split <;> first | rfl | (exfalso; omega)) | (exfalso; omega)) (by omega)
  exact loop2 (((5 - (0)) : Int) + 1).toNat (0) M (by omega) (fun r _ => rfl) (fun q => by rw [if_neg (by omega)]) (by omega)

theorem fs_m_least2 {d : Nat} {M : fs_M} {Q : Option fs_V → fs_M → Prop} {a : Int} {b : Int}   (hq0 : Q (some (.inl (min a b))) M) : fs_W (d) 216 0 [some (.inl a), some (.inl b)] [] M Q := by
  refine fs_r_icmp (a := a) (y := b) (L1 := [some (.inl a), some (.inl b)]) (st1 := []) (M1 := M) (ob := []) rfl rfl trivial (fun (h1 : b ≤ a) => ?_) (fun (h1 : ¬ (b ≤ a)) => ?_)
  · refine fs_r_nop (L1 := [some (.inl a), some (.inl b)]) (st1 := [.inl b]) (M1 := M) (ob := []) rfl rfl trivial ?_
    refine fs_r_iret (a := b) (L1 := [some (.inl a), some (.inl b)]) (M1 := M) (ob := []) rfl rfl trivial (Or.inl rfl) ?_
    exact fs_qi (by omega) hq0
  refine fs_r_goto (L1 := [some (.inl a), some (.inl b)]) (st1 := [.inl a]) (M1 := M) (ob := []) rfl rfl trivial ?_
  refine fs_r_iret (a := a) (L1 := [some (.inl a), some (.inl b)]) (M1 := M) (ob := []) rfl rfl trivial (Or.inl rfl) ?_
  exact fs_qi (by omega) hq0
