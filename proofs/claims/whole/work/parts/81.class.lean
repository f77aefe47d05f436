/-! texts told -/
def wdL (i : Nat) : List Int := (fs_bytes.getD i []).map Int32.toInt
def dgL (n u : Int) : List Int := if u ≤ n ∨ u = 1 then [48 + n / u % 10] else []
def pdL (n u : Int) : List Int := if u = 1000 then [] else if u = 100 then dgL n 1000 else if u = 10 then dgL n 1000 ++ dgL n 100 else if u = 1 then dgL n 1000 ++ dgL n 100 ++ dgL n 10 else dgL n 1000 ++ dgL n 100 ++ dgL n 10 ++ dgL n 1
def ndL (n : Int) : List Int := 32 :: pdL n 0
def flL : Nat → (Int → List Int) → List Int
  | 0, _ => []
  | n + 1, f => flL n f ++ f (n : Int)
theorem flL_s {i : Int} {f : Int → List Int} (h : 0 ≤ i) : flL (i + 1).toNat f = flL i.toNat f ++ f i := by
  obtain ⟨n, rfl⟩ := Int.eq_ofNat_of_zero_le h
  rfl
theorem flL_b {f : Int → List Int} {b : Nat} : ∀ n : Nat, (∀ i : Int, 0 ≤ i → i < n → (f i).length ≤ b) → (flL n f).length ≤ b * n
  | 0, _ => Nat.zero_le _
  | n + 1, h => by
    have ih := flL_b n (fun i i0 i1 => h i i0 (by omega))
    have w := h n (by omega) (by omega)
    show (flL n f ++ f n).length ≤ b * (n + 1)
    rw [List.length_append, Nat.mul_add]
    omega
theorem flL_z {f : Int → List Int} {b : Nat} : ∀ (n : Nat) (x : Int), 0 ≤ x → x < n → (∀ i : Int, 0 ≤ i → i < n → (f i).length ≤ b) → f x = [] → (flL n f).length ≤ b * (n - 1)
  | 0, x, x0, x1, _, _ => by omega
  | n + 1, x, x0, x1, h, z => by
    show (flL n f ++ f n).length ≤ b * (n + 1 - 1)
    rw [List.length_append, Nat.add_sub_cancel]
    rcases (show x = n ∨ x < n by omega) with e | e
    · have w := flL_b n (fun i i0 i1 => h i i0 (by omega))
      rw [← e, z]
      simp only [List.length_nil]
      omega
    · have w := flL_z n x x0 e (fun i i0 i1 => h i i0 (by omega)) z
      have w2 := h n (by omega) (by omega)
      obtain ⟨m, rfl⟩ : ∃ m, n = m + 1 := ⟨n - 1, by omega⟩
      rw [Nat.add_sub_cancel] at w
      rw [Nat.mul_add]
      omega
def sA (N : Int → Int) (a : Int) : List Int := wdL 0 ++ ndL (N (2 + a)) ++ ndL (N (6 + a)) ++ [59]
def sH (N : Int → Int) (h : Int) : List Int := wdL 1 ++ flL 5 (fun k => ndL (N (10 + 5 * h + k))) ++ flL (N 0).toNat (fun a => ndL (N (40 + 4 * h + a))) ++ [59]
def sL (N : Int → Int) (h o : Int) : List Int := if N (64 + 6 * h + o) = 0 then [] else wdL 2 ++ ndL h ++ ndL o ++ ndL (N (64 + 6 * h + o)) ++ [59]
def sI (N : Int → Int) (s k : Int) : List Int := wdL (3 + s.toNat) ++ ndL (N (100 + 13 * s + 1 + 3 * k + 1)) ++ ndL (N (100 + 13 * s + 1 + 3 * k + 2)) ++ [59]
def spL (N : Int → Int) : List Int := flL (N 0).toNat (sA N) ++ flL (N 1).toNat (sH N) ++ flL (N 1).toNat (fun h => flL (N 1).toNat (sL N h)) ++ flL (N 100).toNat (sI N 0) ++ flL (N 113).toNat (sI N 1)
theorem dgL_b {n u : Int} : (dgL n u).length ≤ 1 ∧ (n < u → u ≠ 1 → (dgL n u).length = 0) := by
  unfold dgL
  split
  · exact ⟨Nat.le_refl _, fun a b => by omega⟩
  · exact ⟨Nat.zero_le _, fun _ _ => rfl⟩
theorem ndL_b {n : Int} : (ndL n).length ≤ 5 ∧ (n < 1000 → (ndL n).length ≤ 4) ∧ (n < 100 → (ndL n).length ≤ 3) ∧ (n < 10 → (ndL n).length ≤ 2) := by
  have e : (ndL n).length = 1 + ((dgL n 1000).length + (dgL n 100).length + (dgL n 10).length + (dgL n 1).length) := by
    show (pdL n 0).length + 1 = _
    unfold pdL
    rw [if_neg (by omega), if_neg (by omega), if_neg (by omega), if_neg (by omega)]
    simp only [List.length_append]
    omega
  have h1 := dgL_b (n := n) (u := 1000)
  have h2 := dgL_b (n := n) (u := 100)
  have h3 := dgL_b (n := n) (u := 10)
  have h4 := dgL_b (n := n) (u := 1)
  rw [e]
  refine ⟨by omega, fun z => ?_, fun z => ?_, fun z => ?_⟩
  · have := h1.2 (by omega) (by omega)
    omega
  · have := h1.2 (by omega) (by omega)
    have := h2.2 (by omega) (by omega)
    omega
  · have := h1.2 (by omega) (by omega)
    have := h2.2 (by omega) (by omega)
    have := h3.2 (by omega) (by omega)
    omega
theorem wdL_n : (wdL 0).length = 5 ∧ (wdL 1).length = 5 ∧ (wdL 2).length = 4 ∧ (wdL 3).length = 3 ∧ (wdL 4).length = 5 := by decide
theorem sA_b {N : Int → Int} {a : Int} (hN : fs_NI N) (ha : 0 ≤ a ∧ a < N 0) : (sA N a).length ≤ 12 := by
  have c := hN.2.2.1 a ha.1 (by have := hN.1; omega)
  have h1 := (ndL_b (n := N (2 + a))).2.1 (by omega)
  have h2 := (ndL_b (n := N (6 + a))).2.2.2 (by omega)
  have w := wdL_n
  unfold sA
  simp only [List.length_append, List.length_cons, List.length_nil]
  omega
theorem sH_b {N : Int → Int} {h : Int} (hN : fs_NI N) (hh : 0 ≤ h ∧ h < N 1) : (sH N h).length ≤ 38 := by
  have hA := hN.1
  have hH := hN.2.1
  have st := hN.2.2.2.2.2.2.2.2 h hh.1 hh.2
  have h0 := (ndL_b (n := N (10 + 5 * h + 0))).1
  have h1 := (ndL_b (n := N (10 + 5 * h + 1))).1
  have h2 := (ndL_b (n := N (10 + 5 * h + 2))).1
  have h3 := (ndL_b (n := N (10 + 5 * h + 3))).2.2.1 (by omega)
  have h4 := (ndL_b (n := N (10 + 5 * h + 4))).2.2.2 (by omega)
  have w := wdL_n
  have f := flL_b (f := fun a => ndL (N (40 + 4 * h + a))) (b := 3) (N 0).toNat (fun i i0 i1 => (ndL_b (n := N (40 + 4 * h + i))).2.2.1 (by have := (hN.2.2.2.2.1 h i hh.1 (by omega) i0 (by omega)).2; omega))
  have g : (flL 5 (fun k => ndL (N (10 + 5 * h + k)))).length ≤ 20 := by
    show (((((([] : List Int) ++ ndL (N (10 + 5 * h + ((0 : Nat) : Int)))) ++ ndL (N (10 + 5 * h + ((1 : Nat) : Int)))) ++ ndL (N (10 + 5 * h + ((2 : Nat) : Int)))) ++ ndL (N (10 + 5 * h + ((3 : Nat) : Int)))) ++ ndL (N (10 + 5 * h + ((4 : Nat) : Int)))).length ≤ 20
    simp only [List.length_append, List.length_nil]
    have e0 : ((0 : Nat) : Int) = 0 := rfl
    have e1 : ((1 : Nat) : Int) = 1 := rfl
    have e2 : ((2 : Nat) : Int) = 2 := rfl
    have e3 : ((3 : Nat) : Int) = 3 := rfl
    have e4 : ((4 : Nat) : Int) = 4 := rfl
    rw [e0, e1, e2, e3, e4]
    omega
  unfold sH
  simp only [List.length_append, List.length_cons, List.length_nil]
  omega
theorem sL_b {N : Int → Int} {h o : Int} (hN : fs_NI N) (hh : 0 ≤ h ∧ h < N 1) (ho : 0 ≤ o ∧ o < N 1) : (sL N h o).length ≤ 13 := by
  have hH := hN.2.1
  have c := hN.2.2.2.2.2.1 h o hh.1 (by omega) ho.1 (by omega)
  have h1 := (ndL_b (n := h)).2.2.2 (by omega)
  have h2 := (ndL_b (n := o)).2.2.2 (by omega)
  have h3 := (ndL_b (n := N (64 + 6 * h + o))).2.1 (by omega)
  have w := wdL_n
  unfold sL
  split
  · exact Nat.zero_le _
  · simp only [List.length_append, List.length_cons, List.length_nil]
    omega
theorem sI_b {N : Int → Int} {s k : Int} (hN : fs_NI N) (hs : s = 0 ∨ s = 1) (hk : 0 ≤ k ∧ k < 4) (ha : N (100 + 13 * s + 1 + 3 * k + 1) < 10) : (sI N s k).length ≤ 12 := by
  have c := hN.2.2.2.2.2.2.2.1 s k 2 (by omega) (by omega) hk.1 hk.2 (by omega) (by omega)
  have h1 := (ndL_b (n := N (100 + 13 * s + 1 + 3 * k + 1))).2.2.2 ha
  have h2 := (ndL_b (n := N (100 + 13 * s + 1 + 3 * k + 2))).2.1 (by omega)
  have w := wdL_n
  have w2 : (wdL (3 + s.toNat)).length ≤ 5 := by
    rcases hs with z | z <;> subst z
    · show (wdL 3).length ≤ 5
      omega
    · show (wdL 4).length ≤ 5
      omega
  unfold sI
  simp only [List.length_append, List.length_cons, List.length_nil]
  omega
/-- what lies on a SHELF names ASSETS -/
def fs_NX (N : Int → Int) : Prop := ∀ s k, 0 ≤ s → s < 3 → 0 ≤ k → k < N (100 + 13 * s) → N (100 + 13 * s + 1 + 3 * k + 1) < 10
theorem sLL_b {N : Int → Int} (hN : fs_NI N) (hZ : fs_NZ N) : ∀ n : Nat, (n : Int) ≤ N 1 → (flL n (fun h => flL (N 1).toNat (sL N h))).length ≤ 65 * n := by
  intro n hn
  have hH := hN.2.1
  refine flL_b n (fun h h0 h1 => ?_)
  have w := flL_z (f := sL N h) (b := 13) (N 1).toNat h h0 (by omega) (fun o o0 o1 => sL_b hN ⟨h0, by omega⟩ ⟨o0, by omega⟩) (by
    unfold sL
    exact if_pos (hZ.2.2.1 h h h0 (by omega) h0 (by omega) (Or.inr (Or.inr rfl))))
  show (flL (N 1).toNat (sL N h)).length ≤ 65
  omega
/-- bytes written so far -/
def sl (M : fs_M) (r : Nat) (l : List Int) : Prop := ∀ k : Nat, k < l.length → M r (k : Int) = l.getD k 0
theorem sl.up {M : fs_M} {r : Nat} {l : List Int} {c : Int} (h : sl M r l) : sl (fs_up M r (l.length : Int) c) r (l ++ [c]) := by
  intro k hk
  rw [List.length_append, List.length_cons, List.length_nil] at hk
  rw [fs_up_at, List.getD_eq_getElem?_getD]
  rcases (show k < l.length ∨ k = l.length by omega) with z | z
  · rw [if_neg (by omega), List.getElem?_append_left z, ← List.getD_eq_getElem?_getD]
    exact h k z
  · rw [if_pos (by omega), z]
    simp
theorem sl.fr {M M2 : fs_M} {r : Nat} {l : List Int} (h : sl M r l) (f : M2 r = M r) : sl M2 r l := fun k hk => by rw [f]; exact h k hk
def SP (M : fs_M) (l : List Int) : Prop := M 3 1 = (l.length : Int) ∧ sl M 4 l
def spf (M M2 : fs_M) : Prop := ∀ r, r ≠ 3 → r ≠ 4 → M2 r = M r
theorem spf.rf {M : fs_M} : spf M M := fun _ _ _ => rfl
theorem spf.tr {A B C : fs_M} (h : spf A B) (k : spf B C) : spf A C := fun r a b => (k r a b).trans (h r a b)
theorem spf.vw {M M2 : fs_M} {N : Int → Int} (h : spf M M2) (k : vw 5 M N) : vw 5 M2 N := k.fr (fun r a b => h r (by omega) (by omega))
theorem fs_c_addByte {d : Nat} {M : fs_M} {Q : Option fs_V → fs_M → Prop} {x : Int} {l : List Int} (hP : SP M l) (hl : l.length < 800) (hq0 : ∀ (M2 : fs_M), (spf M M2) → (SP M2 (l ++ [x])) → Q none M2) : fs_W (d) 53 0 [some (.inr (.ref 3)), some (.inl x)] [] M Q := by
  obtain ⟨hp1, hp2⟩ := hP
  have hl2 : (l.length : Int) < 800 := by omega
  refine fs_r_icmp (a := (M 3 1)) (y := 800) (L1 := [some (.inr (.ref 3)), some (.inl x)]) (st1 := []) (M1 := M) (ob := [3 < fs_N ∧ fs_kd 3 = 2]) rfl rfl (fs_oc fs_ob3 trivial) (fun (h1 : 800 ≤ (M 3 1)) => absurd h1 (by omega)) (fun (h1 : ¬ (800 ≤ (M 3 1))) => ?_)
  refine fs_r_nop (L1 := [some (.inr (.ref 3)), some (.inl x)]) (st1 := []) (M1 := (fs_up (fs_up M 4 (M 3 1) x) 3 1 ((M 3 1) + 1))) (ob := [3 < fs_N ∧ fs_kd 3 = 2, 3 < fs_N ∧ fs_kd 3 = 2, (4 < fs_N ∧ fs_kd 4 = 100) ∧ (0 : Int) ≤ (M 3 1) ∧ (M 3 1) < fs_ln 4, 3 < fs_N ∧ fs_kd 3 = 2, fs_rg ((M 3 1) + 1), 3 < fs_N ∧ fs_kd 3 = 2]) rfl (fs_exA 6 (o1 := [3 < fs_N ∧ fs_kd 3 = 2, 3 < fs_N ∧ fs_kd 3 = 2, (4 < fs_N ∧ fs_kd 4 = 100) ∧ (0 : Int) ≤ (M 3 1) ∧ (M 3 1) < fs_ln 4]) (L1 := [some (.inr (.ref 3)), some (.inl x)]) (st1 := []) (M1 := (fs_up M 4 (M 3 1) x)) (o2 := [3 < fs_N ∧ fs_kd 3 = 2, fs_rg ((M 3 1) + 1), 3 < fs_N ∧ fs_kd 3 = 2]) rfl rfl) (fs_oc fs_ob3 (fs_oc fs_ob3 (fs_oc (fs_ar4 (by omega) (by omega)) (fs_oc fs_ob3 (fs_oc ⟨by omega, by omega⟩ (fs_oc fs_ob3 trivial)))))) ?_
  refine fs_r_ret (L1 := [some (.inr (.ref 3)), some (.inl x)]) (M1 := (fs_up (fs_up M 4 (M 3 1) x) 3 1 ((M 3 1) + 1))) (ob := []) rfl rfl trivial ?_
  refine hq0 _ (fun r q1 q2 => by rw [fs_up_other q1, fs_up_other q2]) ⟨?_, ?_⟩
  · rw [fs_up_at, if_pos rfl, List.length_append, List.length_cons, List.length_nil]
    show M 3 1 + 1 = _
    omega
  · rw [hp1]
    exact (hp2.up).fr (fs_up_other (by decide))

theorem fs_c_addWord0 {d : Nat} {M : fs_M} {Q : Option fs_V → fs_M → Prop}  {l : List Int} (hP : SP M l) (hl : l.length + 5 ≤ 800) (hq0 : ∀ (M2 : fs_M), (spf M M2) → (SP M2 (l ++ wdL 0)) → Q none M2) : fs_W (d + 4) 54 0 [some (.inr (.ref 3)), some (.inr (.ref 1000)), none] [] M Q := by
  have tk : ∀ k : Fin 5, (wdL 0).take k.val ++ [((fs_bytes.getD (1000 - 1000) []).getD ((k.val : Nat) : Int).toNat 0).toInt] = (wdL 0).take (k.val + 1) := by decide
  have ln : ((fs_slen.getD (1000 - 1000) 0 : Nat) : Int) = 5 := rfl
  refine fs_r_nop (L1 := [some (.inr (.ref 3)), some (.inr (.ref 1000)), some (.inl 0)]) (st1 := []) (M1 := M) (ob := [2 < 3]) rfl rfl (fs_oc (by decide) trivial) ?_
  have loop2 : ∀ (n2 : Nat) (i : Int) (M3 : fs_M), (0 ≤ i ∧ i ≤ 5) → (spf M M3) → (SP M3 (l ++ (wdL 0).take i.toNat)) → 5 - i < (n2 : Int) → fs_W (d + 4) 54 2 [some (.inr (.ref 3)), some (.inr (.ref 1000)), some (.inl i)] [] M3 Q := by
    intro n2
    induction n2 with
    | zero =>
      intro i M3 i0 f3 p3 hm2
      exfalso
      omega
    | succ n2 ih2 =>
      intro i M3 i0 f3 p3 hm2
      refine fs_r_nat (v := .inl ((fs_slen.getD (1000 - 1000) 0 : Nat) : Int)) (sta := false) (idx := 84) (as := [.inr (.ref 1000)]) (rest := [.inl i]) (L1 := [some (.inr (.ref 3)), some (.inr (.ref 1000)), some (.inl i)]) (st1 := [.inr (.ref 1000), .inl i]) (M1 := M3) (ob := []) rfl rfl rfl trivial rfl rfl (Nat.le_of_ble_eq_true rfl) ⟨Or.inl (by decide), Or.inl (by decide)⟩ (by decide) (rfl) ?_
      refine fs_r_icmp (a := i) (y := ((fs_slen.getD (1000 - 1000) 0 : Nat) : Int)) (L1 := [some (.inr (.ref 3)), some (.inr (.ref 1000)), some (.inl i)]) (st1 := []) (M1 := M3) (ob := []) rfl rfl trivial (fun (h1 : ((fs_slen.getD (1000 - 1000) 0 : Nat) : Int) ≤ i) => ?_) (fun (h1 : ¬ (((fs_slen.getD (1000 - 1000) 0 : Nat) : Int) ≤ i)) => ?_)
      · refine fs_r_ret (L1 := [some (.inr (.ref 3)), some (.inr (.ref 1000)), some (.inl i)]) (M1 := M3) (ob := []) rfl rfl trivial ?_
        have i5 : i.toNat = 5 := by omega
        rw [i5] at p3
        exact hq0 _ f3 p3
      have tk2 := tk ⟨i.toNat, by omega⟩
      have tk3 : ((i.toNat : Nat) : Int) = i := by omega
      simp only [tk3] at tk2
      have ll : ((l ++ (wdL 0).take i.toNat).length) < 800 := by { rw [List.length_append, List.length_take]; omega }
      refine fs_r_nat (v := .inl ((fs_bytes.getD (1000 - 1000) []).getD i.toNat 0).toInt) (sta := false) (idx := 90) (as := [.inr (.ref 1000), .inl i]) (rest := [.inr (.ref 3)]) (L1 := [some (.inr (.ref 3)), some (.inr (.ref 1000)), some (.inl i)]) (st1 := [.inl i, .inr (.ref 1000), .inr (.ref 3)]) (M1 := M3) (ob := []) rfl rfl rfl trivial rfl rfl (Nat.le_of_ble_eq_true rfl) ⟨Or.inl (by decide), Or.inl (by decide)⟩ (by decide) (if_pos ⟨by decide, by omega, by omega⟩) ?_
      refine fs_r_call (sta := false) (idx := 41) (as := [.inr (.ref 3), .inl ((fs_bytes.getD (1000 - 1000) []).getD i.toNat 0).toInt]) (rest := []) (L1 := [some (.inr (.ref 3)), some (.inr (.ref 1000)), some (.inl i)]) (st1 := [.inl ((fs_bytes.getD (1000 - 1000) []).getD i.toNat 0).toInt, .inr (.ref 3)]) (M1 := M3) (ob := []) rfl rfl rfl trivial rfl rfl (Nat.le_of_ble_eq_true rfl) ⟨Or.inr (Nat.le_of_ble_eq_true rfl), Or.inr fs_ob3⟩ (by decide) ?_
      refine fs_c_addByte (l := (l ++ (wdL 0).take i.toNat)) (p3) (ll) (fun (V : fs_M) (vf : spf M3 V) (vp : SP V ((l ++ (wdL 0).take i.toNat) ++ [((fs_bytes.getD (1000 - 1000) []).getD i.toNat 0).toInt])) => ?_)
      refine fs_r_goto (L1 := [some (.inr (.ref 3)), some (.inr (.ref 1000)), some (.inl (i + 1))]) (st1 := []) (M1 := V) (ob := [fs_rg (i + 1)]) rfl rfl (fs_oc ⟨by omega, by omega⟩ trivial) ?_
      exact ih2 ((i + 1)) V (by omega) (f3.tr vf) (by rw [show (i + 1).toNat = i.toNat + 1 by omega, ← tk2, ← List.append_assoc]; exact vp) (by omega)
  exact loop2 (((5 - (0)) : Int) + 1).toNat (0) M (by omega) (spf.rf) (by simpa using hP) (by omega)

theorem fs_c_addWord1 {d : Nat} {M : fs_M} {Q : Option fs_V → fs_M → Prop}  {l : List Int} (hP : SP M l) (hl : l.length + 5 ≤ 800) (hq0 : ∀ (M2 : fs_M), (spf M M2) → (SP M2 (l ++ wdL 1)) → Q none M2) : fs_W (d + 4) 54 0 [some (.inr (.ref 3)), some (.inr (.ref 1001)), none] [] M Q := by
  have tk : ∀ k : Fin 5, (wdL 1).take k.val ++ [((fs_bytes.getD (1001 - 1000) []).getD ((k.val : Nat) : Int).toNat 0).toInt] = (wdL 1).take (k.val + 1) := by decide
  have ln : ((fs_slen.getD (1001 - 1000) 0 : Nat) : Int) = 5 := rfl
  refine fs_r_nop (L1 := [some (.inr (.ref 3)), some (.inr (.ref 1001)), some (.inl 0)]) (st1 := []) (M1 := M) (ob := [2 < 3]) rfl rfl (fs_oc (by decide) trivial) ?_
  have loop2 : ∀ (n2 : Nat) (i : Int) (M3 : fs_M), (0 ≤ i ∧ i ≤ 5) → (spf M M3) → (SP M3 (l ++ (wdL 1).take i.toNat)) → 5 - i < (n2 : Int) → fs_W (d + 4) 54 2 [some (.inr (.ref 3)), some (.inr (.ref 1001)), some (.inl i)] [] M3 Q := by
    intro n2
    induction n2 with
    | zero =>
      intro i M3 i0 f3 p3 hm2
      exfalso
      omega
    | succ n2 ih2 =>
      intro i M3 i0 f3 p3 hm2
      refine fs_r_nat (v := .inl ((fs_slen.getD (1001 - 1000) 0 : Nat) : Int)) (sta := false) (idx := 84) (as := [.inr (.ref 1001)]) (rest := [.inl i]) (L1 := [some (.inr (.ref 3)), some (.inr (.ref 1001)), some (.inl i)]) (st1 := [.inr (.ref 1001), .inl i]) (M1 := M3) (ob := []) rfl rfl rfl trivial rfl rfl (Nat.le_of_ble_eq_true rfl) ⟨Or.inl (by decide), Or.inl (by decide)⟩ (by decide) (rfl) ?_
      refine fs_r_icmp (a := i) (y := ((fs_slen.getD (1001 - 1000) 0 : Nat) : Int)) (L1 := [some (.inr (.ref 3)), some (.inr (.ref 1001)), some (.inl i)]) (st1 := []) (M1 := M3) (ob := []) rfl rfl trivial (fun (h1 : ((fs_slen.getD (1001 - 1000) 0 : Nat) : Int) ≤ i) => ?_) (fun (h1 : ¬ (((fs_slen.getD (1001 - 1000) 0 : Nat) : Int) ≤ i)) => ?_)
      · refine fs_r_ret (L1 := [some (.inr (.ref 3)), some (.inr (.ref 1001)), some (.inl i)]) (M1 := M3) (ob := []) rfl rfl trivial ?_
        have i5 : i.toNat = 5 := by omega
        rw [i5] at p3
        exact hq0 _ f3 p3
      have tk2 := tk ⟨i.toNat, by omega⟩
      have tk3 : ((i.toNat : Nat) : Int) = i := by omega
      simp only [tk3] at tk2
      have ll : ((l ++ (wdL 1).take i.toNat).length) < 800 := by { rw [List.length_append, List.length_take]; omega }
      refine fs_r_nat (v := .inl ((fs_bytes.getD (1001 - 1000) []).getD i.toNat 0).toInt) (sta := false) (idx := 90) (as := [.inr (.ref 1001), .inl i]) (rest := [.inr (.ref 3)]) (L1 := [some (.inr (.ref 3)), some (.inr (.ref 1001)), some (.inl i)]) (st1 := [.inl i, .inr (.ref 1001), .inr (.ref 3)]) (M1 := M3) (ob := []) rfl rfl rfl trivial rfl rfl (Nat.le_of_ble_eq_true rfl) ⟨Or.inl (by decide), Or.inl (by decide)⟩ (by decide) (if_pos ⟨by decide, by omega, by omega⟩) ?_
      refine fs_r_call (sta := false) (idx := 41) (as := [.inr (.ref 3), .inl ((fs_bytes.getD (1001 - 1000) []).getD i.toNat 0).toInt]) (rest := []) (L1 := [some (.inr (.ref 3)), some (.inr (.ref 1001)), some (.inl i)]) (st1 := [.inl ((fs_bytes.getD (1001 - 1000) []).getD i.toNat 0).toInt, .inr (.ref 3)]) (M1 := M3) (ob := []) rfl rfl rfl trivial rfl rfl (Nat.le_of_ble_eq_true rfl) ⟨Or.inr (Nat.le_of_ble_eq_true rfl), Or.inr fs_ob3⟩ (by decide) ?_
      refine fs_c_addByte (l := (l ++ (wdL 1).take i.toNat)) (p3) (ll) (fun (V : fs_M) (vf : spf M3 V) (vp : SP V ((l ++ (wdL 1).take i.toNat) ++ [((fs_bytes.getD (1001 - 1000) []).getD i.toNat 0).toInt])) => ?_)
      refine fs_r_goto (L1 := [some (.inr (.ref 3)), some (.inr (.ref 1001)), some (.inl (i + 1))]) (st1 := []) (M1 := V) (ob := [fs_rg (i + 1)]) rfl rfl (fs_oc ⟨by omega, by omega⟩ trivial) ?_
      exact ih2 ((i + 1)) V (by omega) (f3.tr vf) (by rw [show (i + 1).toNat = i.toNat + 1 by omega, ← tk2, ← List.append_assoc]; exact vp) (by omega)
  exact loop2 (((5 - (0)) : Int) + 1).toNat (0) M (by omega) (spf.rf) (by simpa using hP) (by omega)

theorem fs_c_addWord2 {d : Nat} {M : fs_M} {Q : Option fs_V → fs_M → Prop}  {l : List Int} (hP : SP M l) (hl : l.length + 4 ≤ 800) (hq0 : ∀ (M2 : fs_M), (spf M M2) → (SP M2 (l ++ wdL 2)) → Q none M2) : fs_W (d + 4) 54 0 [some (.inr (.ref 3)), some (.inr (.ref 1002)), none] [] M Q := by
  have tk : ∀ k : Fin 4, (wdL 2).take k.val ++ [((fs_bytes.getD (1002 - 1000) []).getD ((k.val : Nat) : Int).toNat 0).toInt] = (wdL 2).take (k.val + 1) := by decide
  have ln : ((fs_slen.getD (1002 - 1000) 0 : Nat) : Int) = 4 := rfl
  refine fs_r_nop (L1 := [some (.inr (.ref 3)), some (.inr (.ref 1002)), some (.inl 0)]) (st1 := []) (M1 := M) (ob := [2 < 3]) rfl rfl (fs_oc (by decide) trivial) ?_
  have loop2 : ∀ (n2 : Nat) (i : Int) (M3 : fs_M), (0 ≤ i ∧ i ≤ 4) → (spf M M3) → (SP M3 (l ++ (wdL 2).take i.toNat)) → 4 - i < (n2 : Int) → fs_W (d + 4) 54 2 [some (.inr (.ref 3)), some (.inr (.ref 1002)), some (.inl i)] [] M3 Q := by
    intro n2
    induction n2 with
    | zero =>
      intro i M3 i0 f3 p3 hm2
      exfalso
      omega
    | succ n2 ih2 =>
      intro i M3 i0 f3 p3 hm2
      refine fs_r_nat (v := .inl ((fs_slen.getD (1002 - 1000) 0 : Nat) : Int)) (sta := false) (idx := 84) (as := [.inr (.ref 1002)]) (rest := [.inl i]) (L1 := [some (.inr (.ref 3)), some (.inr (.ref 1002)), some (.inl i)]) (st1 := [.inr (.ref 1002), .inl i]) (M1 := M3) (ob := []) rfl rfl rfl trivial rfl rfl (Nat.le_of_ble_eq_true rfl) ⟨Or.inl (by decide), Or.inl (by decide)⟩ (by decide) (rfl) ?_
      refine fs_r_icmp (a := i) (y := ((fs_slen.getD (1002 - 1000) 0 : Nat) : Int)) (L1 := [some (.inr (.ref 3)), some (.inr (.ref 1002)), some (.inl i)]) (st1 := []) (M1 := M3) (ob := []) rfl rfl trivial (fun (h1 : ((fs_slen.getD (1002 - 1000) 0 : Nat) : Int) ≤ i) => ?_) (fun (h1 : ¬ (((fs_slen.getD (1002 - 1000) 0 : Nat) : Int) ≤ i)) => ?_)
      · refine fs_r_ret (L1 := [some (.inr (.ref 3)), some (.inr (.ref 1002)), some (.inl i)]) (M1 := M3) (ob := []) rfl rfl trivial ?_
        have i5 : i.toNat = 4 := by omega
        rw [i5] at p3
        exact hq0 _ f3 p3
      have tk2 := tk ⟨i.toNat, by omega⟩
      have tk3 : ((i.toNat : Nat) : Int) = i := by omega
      simp only [tk3] at tk2
      have ll : ((l ++ (wdL 2).take i.toNat).length) < 800 := by { rw [List.length_append, List.length_take]; omega }
      refine fs_r_nat (v := .inl ((fs_bytes.getD (1002 - 1000) []).getD i.toNat 0).toInt) (sta := false) (idx := 90) (as := [.inr (.ref 1002), .inl i]) (rest := [.inr (.ref 3)]) (L1 := [some (.inr (.ref 3)), some (.inr (.ref 1002)), some (.inl i)]) (st1 := [.inl i, .inr (.ref 1002), .inr (.ref 3)]) (M1 := M3) (ob := []) rfl rfl rfl trivial rfl rfl (Nat.le_of_ble_eq_true rfl) ⟨Or.inl (by decide), Or.inl (by decide)⟩ (by decide) (if_pos ⟨by decide, by omega, by omega⟩) ?_
      refine fs_r_call (sta := false) (idx := 41) (as := [.inr (.ref 3), .inl ((fs_bytes.getD (1002 - 1000) []).getD i.toNat 0).toInt]) (rest := []) (L1 := [some (.inr (.ref 3)), some (.inr (.ref 1002)), some (.inl i)]) (st1 := [.inl ((fs_bytes.getD (1002 - 1000) []).getD i.toNat 0).toInt, .inr (.ref 3)]) (M1 := M3) (ob := []) rfl rfl rfl trivial rfl rfl (Nat.le_of_ble_eq_true rfl) ⟨Or.inr (Nat.le_of_ble_eq_true rfl), Or.inr fs_ob3⟩ (by decide) ?_
      refine fs_c_addByte (l := (l ++ (wdL 2).take i.toNat)) (p3) (ll) (fun (V : fs_M) (vf : spf M3 V) (vp : SP V ((l ++ (wdL 2).take i.toNat) ++ [((fs_bytes.getD (1002 - 1000) []).getD i.toNat 0).toInt])) => ?_)
      refine fs_r_goto (L1 := [some (.inr (.ref 3)), some (.inr (.ref 1002)), some (.inl (i + 1))]) (st1 := []) (M1 := V) (ob := [fs_rg (i + 1)]) rfl rfl (fs_oc ⟨by omega, by omega⟩ trivial) ?_
      exact ih2 ((i + 1)) V (by omega) (f3.tr vf) (by rw [show (i + 1).toNat = i.toNat + 1 by omega, ← tk2, ← List.append_assoc]; exact vp) (by omega)
  exact loop2 (((4 - (0)) : Int) + 1).toNat (0) M (by omega) (spf.rf) (by simpa using hP) (by omega)

theorem fs_c_addWord3 {d : Nat} {M : fs_M} {Q : Option fs_V → fs_M → Prop}  {l : List Int} (hP : SP M l) (hl : l.length + 3 ≤ 800) (hq0 : ∀ (M2 : fs_M), (spf M M2) → (SP M2 (l ++ wdL 3)) → Q none M2) : fs_W (d + 4) 54 0 [some (.inr (.ref 3)), some (.inr (.ref 1003)), none] [] M Q := by
  have tk : ∀ k : Fin 3, (wdL 3).take k.val ++ [((fs_bytes.getD (1003 - 1000) []).getD ((k.val : Nat) : Int).toNat 0).toInt] = (wdL 3).take (k.val + 1) := by decide
  have ln : ((fs_slen.getD (1003 - 1000) 0 : Nat) : Int) = 3 := rfl
  refine fs_r_nop (L1 := [some (.inr (.ref 3)), some (.inr (.ref 1003)), some (.inl 0)]) (st1 := []) (M1 := M) (ob := [2 < 3]) rfl rfl (fs_oc (by decide) trivial) ?_
  have loop2 : ∀ (n2 : Nat) (i : Int) (M3 : fs_M), (0 ≤ i ∧ i ≤ 3) → (spf M M3) → (SP M3 (l ++ (wdL 3).take i.toNat)) → 3 - i < (n2 : Int) → fs_W (d + 4) 54 2 [some (.inr (.ref 3)), some (.inr (.ref 1003)), some (.inl i)] [] M3 Q := by
    intro n2
    induction n2 with
    | zero =>
      intro i M3 i0 f3 p3 hm2
      exfalso
      omega
    | succ n2 ih2 =>
      intro i M3 i0 f3 p3 hm2
      refine fs_r_nat (v := .inl ((fs_slen.getD (1003 - 1000) 0 : Nat) : Int)) (sta := false) (idx := 84) (as := [.inr (.ref 1003)]) (rest := [.inl i]) (L1 := [some (.inr (.ref 3)), some (.inr (.ref 1003)), some (.inl i)]) (st1 := [.inr (.ref 1003), .inl i]) (M1 := M3) (ob := []) rfl rfl rfl trivial rfl rfl (Nat.le_of_ble_eq_true rfl) ⟨Or.inl (by decide), Or.inl (by decide)⟩ (by decide) (rfl) ?_
      refine fs_r_icmp (a := i) (y := ((fs_slen.getD (1003 - 1000) 0 : Nat) : Int)) (L1 := [some (.inr (.ref 3)), some (.inr (.ref 1003)), some (.inl i)]) (st1 := []) (M1 := M3) (ob := []) rfl rfl trivial (fun (h1 : ((fs_slen.getD (1003 - 1000) 0 : Nat) : Int) ≤ i) => ?_) (fun (h1 : ¬ (((fs_slen.getD (1003 - 1000) 0 : Nat) : Int) ≤ i)) => ?_)
      · refine fs_r_ret (L1 := [some (.inr (.ref 3)), some (.inr (.ref 1003)), some (.inl i)]) (M1 := M3) (ob := []) rfl rfl trivial ?_
        have i5 : i.toNat = 3 := by omega
        rw [i5] at p3
        exact hq0 _ f3 p3
      have tk2 := tk ⟨i.toNat, by omega⟩
      have tk3 : ((i.toNat : Nat) : Int) = i := by omega
      simp only [tk3] at tk2
      have ll : ((l ++ (wdL 3).take i.toNat).length) < 800 := by { rw [List.length_append, List.length_take]; omega }
      refine fs_r_nat (v := .inl ((fs_bytes.getD (1003 - 1000) []).getD i.toNat 0).toInt) (sta := false) (idx := 90) (as := [.inr (.ref 1003), .inl i]) (rest := [.inr (.ref 3)]) (L1 := [some (.inr (.ref 3)), some (.inr (.ref 1003)), some (.inl i)]) (st1 := [.inl i, .inr (.ref 1003), .inr (.ref 3)]) (M1 := M3) (ob := []) rfl rfl rfl trivial rfl rfl (Nat.le_of_ble_eq_true rfl) ⟨Or.inl (by decide), Or.inl (by decide)⟩ (by decide) (if_pos ⟨by decide, by omega, by omega⟩) ?_
      refine fs_r_call (sta := false) (idx := 41) (as := [.inr (.ref 3), .inl ((fs_bytes.getD (1003 - 1000) []).getD i.toNat 0).toInt]) (rest := []) (L1 := [some (.inr (.ref 3)), some (.inr (.ref 1003)), some (.inl i)]) (st1 := [.inl ((fs_bytes.getD (1003 - 1000) []).getD i.toNat 0).toInt, .inr (.ref 3)]) (M1 := M3) (ob := []) rfl rfl rfl trivial rfl rfl (Nat.le_of_ble_eq_true rfl) ⟨Or.inr (Nat.le_of_ble_eq_true rfl), Or.inr fs_ob3⟩ (by decide) ?_
      refine fs_c_addByte (l := (l ++ (wdL 3).take i.toNat)) (p3) (ll) (fun (V : fs_M) (vf : spf M3 V) (vp : SP V ((l ++ (wdL 3).take i.toNat) ++ [((fs_bytes.getD (1003 - 1000) []).getD i.toNat 0).toInt])) => ?_)
      refine fs_r_goto (L1 := [some (.inr (.ref 3)), some (.inr (.ref 1003)), some (.inl (i + 1))]) (st1 := []) (M1 := V) (ob := [fs_rg (i + 1)]) rfl rfl (fs_oc ⟨by omega, by omega⟩ trivial) ?_
      exact ih2 ((i + 1)) V (by omega) (f3.tr vf) (by rw [show (i + 1).toNat = i.toNat + 1 by omega, ← tk2, ← List.append_assoc]; exact vp) (by omega)
  exact loop2 (((3 - (0)) : Int) + 1).toNat (0) M (by omega) (spf.rf) (by simpa using hP) (by omega)

theorem fs_c_addWord4 {d : Nat} {M : fs_M} {Q : Option fs_V → fs_M → Prop}  {l : List Int} (hP : SP M l) (hl : l.length + 5 ≤ 800) (hq0 : ∀ (M2 : fs_M), (spf M M2) → (SP M2 (l ++ wdL 4)) → Q none M2) : fs_W (d + 4) 54 0 [some (.inr (.ref 3)), some (.inr (.ref 1004)), none] [] M Q := by
  have tk : ∀ k : Fin 5, (wdL 4).take k.val ++ [((fs_bytes.getD (1004 - 1000) []).getD ((k.val : Nat) : Int).toNat 0).toInt] = (wdL 4).take (k.val + 1) := by decide
  have ln : ((fs_slen.getD (1004 - 1000) 0 : Nat) : Int) = 5 := rfl
  refine fs_r_nop (L1 := [some (.inr (.ref 3)), some (.inr (.ref 1004)), some (.inl 0)]) (st1 := []) (M1 := M) (ob := [2 < 3]) rfl rfl (fs_oc (by decide) trivial) ?_
  have loop2 : ∀ (n2 : Nat) (i : Int) (M3 : fs_M), (0 ≤ i ∧ i ≤ 5) → (spf M M3) → (SP M3 (l ++ (wdL 4).take i.toNat)) → 5 - i < (n2 : Int) → fs_W (d + 4) 54 2 [some (.inr (.ref 3)), some (.inr (.ref 1004)), some (.inl i)] [] M3 Q := by
    intro n2
    induction n2 with
    | zero =>
      intro i M3 i0 f3 p3 hm2
      exfalso
      omega
    | succ n2 ih2 =>
      intro i M3 i0 f3 p3 hm2
      refine fs_r_nat (v := .inl ((fs_slen.getD (1004 - 1000) 0 : Nat) : Int)) (sta := false) (idx := 84) (as := [.inr (.ref 1004)]) (rest := [.inl i]) (L1 := [some (.inr (.ref 3)), some (.inr (.ref 1004)), some (.inl i)]) (st1 := [.inr (.ref 1004), .inl i]) (M1 := M3) (ob := []) rfl rfl rfl trivial rfl rfl (Nat.le_of_ble_eq_true rfl) ⟨Or.inl (by decide), Or.inl (by decide)⟩ (by decide) (rfl) ?_
      refine fs_r_icmp (a := i) (y := ((fs_slen.getD (1004 - 1000) 0 : Nat) : Int)) (L1 := [some (.inr (.ref 3)), some (.inr (.ref 1004)), some (.inl i)]) (st1 := []) (M1 := M3) (ob := []) rfl rfl trivial (fun (h1 : ((fs_slen.getD (1004 - 1000) 0 : Nat) : Int) ≤ i) => ?_) (fun (h1 : ¬ (((fs_slen.getD (1004 - 1000) 0 : Nat) : Int) ≤ i)) => ?_)
      · refine fs_r_ret (L1 := [some (.inr (.ref 3)), some (.inr (.ref 1004)), some (.inl i)]) (M1 := M3) (ob := []) rfl rfl trivial ?_
        have i5 : i.toNat = 5 := by omega
        rw [i5] at p3
        exact hq0 _ f3 p3
      have tk2 := tk ⟨i.toNat, by omega⟩
      have tk3 : ((i.toNat : Nat) : Int) = i := by omega
      simp only [tk3] at tk2
      have ll : ((l ++ (wdL 4).take i.toNat).length) < 800 := by { rw [List.length_append, List.length_take]; omega }
      refine fs_r_nat (v := .inl ((fs_bytes.getD (1004 - 1000) []).getD i.toNat 0).toInt) (sta := false) (idx := 90) (as := [.inr (.ref 1004), .inl i]) (rest := [.inr (.ref 3)]) (L1 := [some (.inr (.ref 3)), some (.inr (.ref 1004)), some (.inl i)]) (st1 := [.inl i, .inr (.ref 1004), .inr (.ref 3)]) (M1 := M3) (ob := []) rfl rfl rfl trivial rfl rfl (Nat.le_of_ble_eq_true rfl) ⟨Or.inl (by decide), Or.inl (by decide)⟩ (by decide) (if_pos ⟨by decide, by omega, by omega⟩) ?_
      refine fs_r_call (sta := false) (idx := 41) (as := [.inr (.ref 3), .inl ((fs_bytes.getD (1004 - 1000) []).getD i.toNat 0).toInt]) (rest := []) (L1 := [some (.inr (.ref 3)), some (.inr (.ref 1004)), some (.inl i)]) (st1 := [.inl ((fs_bytes.getD (1004 - 1000) []).getD i.toNat 0).toInt, .inr (.ref 3)]) (M1 := M3) (ob := []) rfl rfl rfl trivial rfl rfl (Nat.le_of_ble_eq_true rfl) ⟨Or.inr (Nat.le_of_ble_eq_true rfl), Or.inr fs_ob3⟩ (by decide) ?_
      refine fs_c_addByte (l := (l ++ (wdL 4).take i.toNat)) (p3) (ll) (fun (V : fs_M) (vf : spf M3 V) (vp : SP V ((l ++ (wdL 4).take i.toNat) ++ [((fs_bytes.getD (1004 - 1000) []).getD i.toNat 0).toInt])) => ?_)
      refine fs_r_goto (L1 := [some (.inr (.ref 3)), some (.inr (.ref 1004)), some (.inl (i + 1))]) (st1 := []) (M1 := V) (ob := [fs_rg (i + 1)]) rfl rfl (fs_oc ⟨by omega, by omega⟩ trivial) ?_
      exact ih2 ((i + 1)) V (by omega) (f3.tr vf) (by rw [show (i + 1).toNat = i.toNat + 1 by omega, ← tk2, ← List.append_assoc]; exact vp) (by omega)
  exact loop2 (((5 - (0)) : Int) + 1).toNat (0) M (by omega) (spf.rf) (by simpa using hP) (by omega)

theorem pdL_s {n u : Int} (h : u = 1000 ∨ u = 100 ∨ u = 10 ∨ u = 1) : pdL n (u / 10) = pdL n u ++ dgL n u ∧ (pdL n u).length ≤ 3 := by
  have h1 := (dgL_b (n := n) (u := 1000)).1
  have h2 := (dgL_b (n := n) (u := 100)).1
  have h3 := (dgL_b (n := n) (u := 10)).1
  rcases h with z | z | z | z <;> subst z
  · exact ⟨rfl, by show ([] : List Int).length ≤ 3; simp⟩
  · exact ⟨rfl, by show (dgL n 1000).length ≤ 3; omega⟩
  · exact ⟨rfl, by show (dgL n 1000 ++ dgL n 100).length ≤ 3; rw [List.length_append]; omega⟩
  · exact ⟨rfl, by show (dgL n 1000 ++ dgL n 100 ++ dgL n 10).length ≤ 3; rw [List.length_append, List.length_append]; omega⟩
theorem fs_c_addNumber {d : Nat} {M : fs_M} {Q : Option fs_V → fs_M → Prop} {n : Int} {l : List Int} (hP : SP M l) (hl : l.length + 5 ≤ 800) (hn : 0 ≤ n ∧ n ≤ 9999) (hq0 : ∀ (M2 : fs_M), (spf M M2) → (SP M2 (l ++ ndL n)) → Q none M2) : fs_W (d + 1) 55 0 [some (.inr (.ref 3)), some (.inl n), none] [] M Q := by
  refine fs_r_call (sta := false) (idx := 41) (as := [.inr (.ref 3), .inl 32]) (rest := []) (L1 := [some (.inr (.ref 3)), some (.inl n), none]) (st1 := [.inl 32, .inr (.ref 3)]) (M1 := M) (ob := []) rfl rfl rfl trivial rfl rfl (Nat.le_of_ble_eq_true rfl) ⟨Or.inr (Nat.le_of_ble_eq_true rfl), Or.inr fs_ob3⟩ (by decide) ?_
  refine fs_c_addByte (l := l) (by assumption) (by omega) (fun (V : fs_M) (vf : spf M V) (vp : SP V (l ++ [32])) => ?_)
  refine fs_r_nop (L1 := [some (.inr (.ref 3)), some (.inl n), some (.inl 1000)]) (st1 := []) (M1 := V) (ob := [2 < 3]) rfl rfl (fs_oc (by decide) trivial) ?_
  have loop10 : ∀ (n10 : Nat) (u : Int) (M3 : fs_M), (u = 1000 ∨ u = 100 ∨ u = 10 ∨ u = 1 ∨ u = 0) → (spf M M3) → (SP M3 (l ++ (32 :: pdL n u))) → u < (n10 : Int) → fs_W (d + 1) 55 10 [some (.inr (.ref 3)), some (.inl n), some (.inl u)] [] M3 Q := by
    intro n10
    induction n10 with
    | zero =>
      intro u M3 u0 f3 p3 hm10
      exfalso
      omega
    | succ n10 ih10 =>
      intro u M3 u0 f3 p3 hm10
      refine fs_r_if (a := u) (L1 := [some (.inr (.ref 3)), some (.inl n), some (.inl u)]) (st1 := []) (M1 := M3) (ob := []) rfl rfl trivial (fun (h1 : u ≤ 0) => ?_) (fun (h1 : ¬ (u ≤ 0)) => ?_)
      · refine fs_r_ret (L1 := [some (.inr (.ref 3)), some (.inl n), some (.inl u)]) (M1 := M3) (ob := []) rfl rfl trivial ?_
        have uz : u = 0 := by omega
        subst uz
        exact hq0 _ f3 p3
      have us : u = 1000 ∨ u = 100 ∨ u = 10 ∨ u = 1 := by omega
      have ps := pdL_s (n := n) us
      have ll : (l ++ (32 :: pdL n u)).length < 800 := by { rw [List.length_append, List.length_cons]; omega }
      have dv : 0 ≤ n / u ∧ n / u ≤ 9999 := ⟨Int.ediv_nonneg (by omega) (by omega), Int.le_trans (Int.ediv_le_self _ (by omega)) (by omega)⟩
      have dm : 0 ≤ n / u % 10 ∧ n / u % 10 < 10 := ⟨Int.emod_nonneg _ (by omega), Int.emod_lt_of_pos _ (by omega)⟩
      have ud : u / 10 = 100 ∨ u / 10 = 10 ∨ u / 10 = 1 ∨ u / 10 = 0 := by rcases us with z | z | z | z <;> subst z <;> omega
      have ul : u / 10 < u := by rcases us with z | z | z | z <;> subst z <;> omega
      refine fs_r_icmp (a := n) (y := u) (L1 := [some (.inr (.ref 3)), some (.inl n), some (.inl u)]) (st1 := []) (M1 := M3) (ob := []) rfl rfl trivial (fun (h2 : u ≤ n) => ?_) (fun (h2 : ¬ (u ≤ n)) => ?_)
      · refine fs_r_call (sta := false) (idx := 41) (as := [.inr (.ref 3), .inl (48 + ((n / u) % 10))]) (rest := []) (L1 := [some (.inr (.ref 3)), some (.inl n), some (.inl u)]) (st1 := [.inl (48 + ((n / u) % 10)), .inr (.ref 3)]) (M1 := M3) (ob := [(0 : Int) ≤ n, (0 : Int) < u, (0 : Int) ≤ (n / u), (0 : Int) < 10, fs_rg (48 + ((n / u) % 10))]) rfl rfl (fs_exA 6 (o1 := [(0 : Int) ≤ n, (0 : Int) < u]) (L1 := [some (.inr (.ref 3)), some (.inl n), some (.inl u)]) (st1 := [.inl 10, .inl (n / u), .inl 48, .inr (.ref 3)]) (M1 := M3) (o2 := [(0 : Int) ≤ (n / u), (0 : Int) < 10, fs_rg (48 + ((n / u) % 10))]) rfl rfl) (fs_oc (by omega) (fs_oc (by omega) (fs_oc (by omega) (fs_oc (by omega) (fs_oc ⟨by omega, by omega⟩ trivial))))) rfl rfl (Nat.le_of_ble_eq_true rfl) ⟨Or.inr (Nat.le_of_ble_eq_true rfl), Or.inr fs_ob3⟩ (by decide) ?_
        refine fs_c_addByte (l := (l ++ (32 :: pdL n u))) (p3) (ll) (fun (W : fs_M) (wf : spf M3 W) (wp : SP W ((l ++ (32 :: pdL n u)) ++ [(48 + ((n / u) % 10))])) => ?_)
        refine fs_r_goto (L1 := [some (.inr (.ref 3)), some (.inl n), some (.inl (u / 10))]) (st1 := []) (M1 := W) (ob := [(0 : Int) ≤ u, (0 : Int) < 10, 2 < 3]) rfl rfl (fs_oc (by omega) (fs_oc (by omega) (fs_oc (by decide) trivial))) ?_
        exact ih10 ((u / 10)) W (by omega) (by first | exact f3 | exact f3.tr wf) (by
             rw [ps.1]
             unfold dgL
             first
               | (rw [if_neg (by omega), List.append_nil]; exact p3)
               | (rw [if_pos (by omega)]
                  have e : l ++ (32 :: (pdL n u ++ [48 + n / u % 10])) = (l ++ (32 :: pdL n u)) ++ [48 + n / u % 10] := by simp
                  rw [e]
                  exact wp)) (by omega)
      refine fs_r_icmp (a := u) (y := 1) (L1 := [some (.inr (.ref 3)), some (.inl n), some (.inl u)]) (st1 := []) (M1 := M3) (ob := []) rfl rfl trivial (fun (h3 : ¬ u = 1) => ?_) (fun (h3 : ¬ (¬ u = 1)) => ?_)
      · refine fs_r_goto (L1 := [some (.inr (.ref 3)), some (.inl n), some (.inl (u / 10))]) (st1 := []) (M1 := M3) (ob := [(0 : Int) ≤ u, (0 : Int) < 10, 2 < 3]) rfl rfl (fs_oc (by omega) (fs_oc (by omega) (fs_oc (by decide) trivial))) ?_
        exact ih10 ((u / 10)) M3 (by omega) (by first | exact f3 | exact f3.tr wf) (by
             rw [ps.1]
             unfold dgL
             first
               | (rw [if_neg (by omega), List.append_nil]; exact p3)
               | (rw [if_pos (by omega)]
                  have e : l ++ (32 :: (pdL n u ++ [48 + n / u % 10])) = (l ++ (32 :: pdL n u)) ++ [48 + n / u % 10] := by simp
                  rw [e]
                  exact wp)) (by omega)
      refine fs_r_call (sta := false) (idx := 41) (as := [.inr (.ref 3), .inl (48 + ((n / u) % 10))]) (rest := []) (L1 := [some (.inr (.ref 3)), some (.inl n), some (.inl u)]) (st1 := [.inl (48 + ((n / u) % 10)), .inr (.ref 3)]) (M1 := M3) (ob := [(0 : Int) ≤ n, (0 : Int) < u, (0 : Int) ≤ (n / u), (0 : Int) < 10, fs_rg (48 + ((n / u) % 10))]) rfl rfl (fs_exA 6 (o1 := [(0 : Int) ≤ n, (0 : Int) < u]) (L1 := [some (.inr (.ref 3)), some (.inl n), some (.inl u)]) (st1 := [.inl 10, .inl (n / u), .inl 48, .inr (.ref 3)]) (M1 := M3) (o2 := [(0 : Int) ≤ (n / u), (0 : Int) < 10, fs_rg (48 + ((n / u) % 10))]) rfl rfl) (fs_oc (by omega) (fs_oc (by omega) (fs_oc (by omega) (fs_oc (by omega) (fs_oc ⟨by omega, by omega⟩ trivial))))) rfl rfl (Nat.le_of_ble_eq_true rfl) ⟨Or.inr (Nat.le_of_ble_eq_true rfl), Or.inr fs_ob3⟩ (by decide) ?_
      refine fs_c_addByte (l := (l ++ (32 :: pdL n u))) (p3) (ll) (fun (W : fs_M) (wf : spf M3 W) (wp : SP W ((l ++ (32 :: pdL n u)) ++ [(48 + ((n / u) % 10))])) => ?_)
      refine fs_r_goto (L1 := [some (.inr (.ref 3)), some (.inl n), some (.inl (u / 10))]) (st1 := []) (M1 := W) (ob := [(0 : Int) ≤ u, (0 : Int) < 10, 2 < 3]) rfl rfl (fs_oc (by omega) (fs_oc (by omega) (fs_oc (by decide) trivial))) ?_
      exact ih10 ((u / 10)) W (by omega) (by first | exact f3 | exact f3.tr wf) (by
           rw [ps.1]
           unfold dgL
           first
             | (rw [if_neg (by omega), List.append_nil]; exact p3)
             | (rw [if_pos (by omega)]
                have e : l ++ (32 :: (pdL n u ++ [48 + n / u % 10])) = (l ++ (32 :: pdL n u)) ++ [48 + n / u % 10] := by simp
                rw [e]
                exact wp)) (by omega)
  exact loop10 ((((1000)) : Int) + 1).toNat (1000) V (by omega) (vf) (vp) (by omega)
