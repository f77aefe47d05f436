/-! what holds at the law's entry -/
theorem fs_kn {args : Array Value} {s : State} (hts : ∀ w ∈ fs_good, w.before args s = true) (hao : (Cond.arrayOver (.object "FireSale$Book")).before args s = true) : ∃ (dC : Nat → ClassId) (dI : Nat → Nat → Nat) (cA cB : ClassId), va_K (dC, dI) vwCl (fs_tys cA cB) s := by
  obtain ⟨c0, i0, k0⟩ := u_known (C := RX0) (T := TX0) (N := 8) (n := 8) hts fs_inX0 (hts _ (fs_ok_mem (p := 173) (by decide +kernel)))
  obtain ⟨c1, i1, k1⟩ := u_known (C := RX1) (T := TX1) (N := 14) (n := 14) hts fs_inX1 (hts _ (fs_ok_mem (p := 223) (by decide +kernel)))
  obtain ⟨c2, i2, k2⟩ := u_known (C := RX2) (T := TX2) (N := 2) (n := 2) hts fs_inX2 (hts _ (fs_ok_mem (p := 158) (by decide +kernel)))
  obtain ⟨c3, i3, k3⟩ := u_known (C := RX3) (T := TX3) (N := 2) (n := 2) hts fs_inX3 (hts _ (fs_ok_mem (p := 278) (by decide +kernel)))
  obtain ⟨c4, i4, k4⟩ := u_known (C := RX4) (T := TX4) (N := 7) (n := 7) hts fs_inX4 (hts _ (fs_ok_mem (p := 128) (by decide +kernel)))
  obtain ⟨c5, i5, k5⟩ := u_known (C := RX5) (T := TX5) (N := 14) (n := 14) hts fs_inX5 (hts _ (fs_ok_mem (p := 120) (by decide +kernel)))
  obtain ⟨c6, i6, k6⟩ := u_known (C := RX6) (T := TX6) (N := 35) (n := 35) hts fs_inX6 (hts _ (fs_ok_mem (p := 1106) (by decide +kernel)))
  obtain ⟨cA, kA, compA, a1, a2, a3⟩ := Cond.arrayClass_spec (args := args) (first := s) (o := none) (s := s) (idx := []) (type := .int) (hts _ (fs_ok_mem (p := 156) (by decide +kernel)))
  obtain ⟨compB, cB, kB, b1, -, b2, b3, b4⟩ := Cond.arrayOver_spec (args := args) (first := s) (o := none) (s := s) (idx := []) (n := "FireSale$Book") hao
  refine ⟨fun k => ([c0, c1, c2, c3, c4, c5, c6] : List ClassId).getD k c0, fun k => ([i0, i1, i2, i3, i4, i5, i6] : List (Nat → Nat)).getD k i0, cA, cB, fun k q hq => ?_, fun k q hq => ?_⟩
  · match k, hq with
    | 0, hq => cases hq; exact k0
    | 1, hq => cases hq; exact k1
    | 2, hq => cases hq; exact k2
    | 3, hq => cases hq; exact k3
    | 4, hq => cases hq; exact k4
    | 5, hq => cases hq; exact k5
    | 6, hq => cases hq; exact k6
    | k + 7, hq => simp at hq
  · match k, hq with
    | 0, hq => cases hq; exact ⟨fun n z => ⟨(fun k h => by cases h), kA, a2, compA, a3⟩, a1⟩
    | 1, hq => cases hq; exact ⟨fun n z => ⟨(fun k h => by cases h), kB, b2, compB, b3⟩, ⟨kB, compB, b2, b3, b1, b4⟩⟩
    | k + 2, hq => simp at hq
abbrev fs_tm : Nat → Term := fun i => .string "FireSale$Tape" (([64, 73, 78, 83, 89] : List Nat).getD i 0)
theorem fs_strs_ok {b : Nat} {s : State} (hts : ∀ w ∈ lw_tbl, w.before #[Value.ref b] s = true) (hg : (Jvm.Cond.and given_1 narrow_1).before #[Value.ref b] s = true) :
    ∃ sa sv : Nat → Nat, (∀ q ∈ fs_strs, vk_R q.1 q.2.1 (fs_txt.getD q.2.2 "") (sa q.2.2) s) ∧ vk_S 5 fs_slen fs_bytes sa sv (fun q => s.heap.size ≤ q) s s.heap := by
  have hs := flat_of_before _ hg
  have five : ∀ {i : Nat}, i < 5 → i = 0 ∨ i = 1 ∨ i = 2 ∨ i = 3 ∨ i = 4 := fun h => by omega
  obtain ⟨sa, sv, h1, h2⟩ := vk_Sof (args := #[Value.ref b]) (s := s) (N := 5) (tm := fs_tm) (len := fs_slen) (byt := fs_bytes) (A := fun q => s.heap.size ≤ q) (fun i hi => by rcases five hi with rfl | rfl | rfl | rfl | rfl <;> decide)
    (fun i hi => by rcases five hi with rfl | rfl | rfl | rfl | rfl <;> exact hs _ (by decide +kernel))
    (fun i hi => by rcases five hi with rfl | rfl | rfl | rfl | rfl <;> exact hs _ (by decide +kernel))
    (fun i hi => by rcases five hi with rfl | rfl | rfl | rfl | rfl <;> exact hs _ (by decide +kernel))
    (fun i hi => by rcases five hi with rfl | rfl | rfl | rfl | rfl <;> exact hs _ (by decide +kernel))
    (fun i hi j hj => by
      rcases five hi with rfl | rfl | rfl | rfl | rfl
      · rcases (show j = 0 ∨ j = 1 ∨ j = 2 ∨ j = 3 ∨ j = 4 from by have hj : j < 5 := hj; omega) with rfl | rfl | rfl | rfl | rfl <;> exact hs _ (by decide +kernel)
      · rcases (show j = 0 ∨ j = 1 ∨ j = 2 ∨ j = 3 ∨ j = 4 from by have hj : j < 5 := hj; omega) with rfl | rfl | rfl | rfl | rfl <;> exact hs _ (by decide +kernel)
      · rcases (show j = 0 ∨ j = 1 ∨ j = 2 ∨ j = 3 from by have hj : j < 4 := hj; omega) with rfl | rfl | rfl | rfl <;> exact hs _ (by decide +kernel)
      · rcases (show j = 0 ∨ j = 1 ∨ j = 2 from by have hj : j < 3 := hj; omega) with rfl | rfl | rfl <;> exact hs _ (by decide +kernel)
      · rcases (show j = 0 ∨ j = 1 ∨ j = 2 ∨ j = 3 ∨ j = 4 from by have hj : j < 5 := hj; omega) with rfl | rfl | rfl | rfl | rfl <;> exact hs _ (by decide +kernel)
      )
    (fun i j hi hj hij => by
      rcases five hi with rfl | rfl | rfl | rfl | rfl <;> rcases five hj with rfl | rfl | rfl | rfl | rfl <;> first | exact absurd rfl hij | exact Or.inl (hs _ (by decide +kernel)) | exact Or.inr (hs _ (by decide +kernel)))
    (fun a ha => by omega)
  refine ⟨sa, sv, fun q hq => ?_, h1⟩
  simp only [fs_strs, List.mem_cons, List.not_mem_nil, or_false] at hq
  rcases hq with rfl | rfl | rfl | rfl | rfl | rfl | rfl | rfl | rfl | rfl
  · exact vk_R.of (hts _ (List.mem_of_getElem? (i := 380) (by decide +kernel))) (h2 0 (by decide))
  · exact vk_R.of (hts _ (List.mem_of_getElem? (i := 457) (by decide +kernel))) (h2 1 (by decide))
  · exact vk_R.of (hts _ (List.mem_of_getElem? (i := 481) (by decide +kernel))) (h2 2 (by decide))
  · exact vk_R.of (hts _ (List.mem_of_getElem? (i := 490) (by decide +kernel))) (h2 3 (by decide))
  · exact vk_R.of (hts _ (List.mem_of_getElem? (i := 499) (by decide +kernel))) (h2 4 (by decide))
  · exact vk_R.of (hts _ (List.mem_of_getElem? (i := 1055) (by decide +kernel))) (va_eqR (hs (.eq (.string "FireSale$Tape" 64) (.string "FireSale$Speller" 24)) (by decide +kernel)) (h2 0 (by decide)))
  · exact vk_R.of (hts _ (List.mem_of_getElem? (i := 1076) (by decide +kernel))) (va_eqR (hs (.eq (.string "FireSale$Tape" 73) (.string "FireSale$Speller" 63)) (by decide +kernel)) (h2 1 (by decide)))
  · exact vk_R.of (hts _ (List.mem_of_getElem? (i := 1084) (by decide +kernel))) (va_eqR (hs (.eq (.string "FireSale$Tape" 78) (.string "FireSale$Speller" 75)) (by decide +kernel)) (h2 2 (by decide)))
  · exact vk_R.of (hts _ (List.mem_of_getElem? (i := 1085) (by decide +kernel))) (va_eqR (hs (.eq (.string "FireSale$Tape" 83) (.string "FireSale$Speller" 55)) (by decide +kernel)) (h2 3 (by decide)))
  · exact vk_R.of (hts _ (List.mem_of_getElem? (i := 1091) (by decide +kernel))) (va_eqR (hs (.eq (.string "FireSale$Tape" 89) (.string "FireSale$Speller" 61)) (by decide +kernel)) (h2 4 (by decide)))
theorem fs_Y_ok {b : Nat} {s : State} (hts : ∀ w ∈ lw_tbl, w.before #[Value.ref b] s = true) (hg : (Jvm.Cond.and given_1 narrow_1).before #[Value.ref b] s = true) : fs_Y s.heap.size s s.heap := by
  have hs := flat_of_before _ hg
  have hA : ∀ a : Nat, a < s.heap.size → ¬ s.heap.size ≤ a := fun a h => by omega
  exact ⟨va_Zof (hts _ (List.mem_of_getElem? (i := 394) (by decide +kernel))) (hts _ (List.mem_of_getElem? (i := 111) (by decide +kernel))) (va_eqi (hs _ (by decide +kernel))) hA, va_Zqof (hts _ (List.mem_of_getElem? (i := 410) (by decide +kernel))) (hts _ (List.mem_of_getElem? (i := 113) (by decide +kernel))) (hs _ (by decide +kernel)) hA⟩
theorem fs_nw_in : ∀ q ∈ fs_nw, Cond.methodLinkNest q.1 q.2.1 q.2.2 "FireSale" ∈ lw_tbl := by decide +kernel
theorem fs_nwi_in : ∀ q ∈ fs_nwi, Cond.methodLinkNest q.1 q.2.1 q.2.2 "FireSale" ∈ lw_tbl := by decide +kernel
/-! the memory behind the constructors -/
theorem fs_m0_rg {Ln : Nat} {xs : Nat → Int32} (h : Ln ≤ 3072) (r : Nat) (i : Int) : fs_rg (fs_m0 Ln xs r i) := by
  unfold fs_m0
  have z : fs_rg 0 := ⟨by omega, by omega⟩
  by_cases h9 : r = 999
  · rw [if_pos h9]
    by_cases a : i = -1
    · rw [if_pos a]
      exact ⟨by omega, by omega⟩
    · rw [if_neg a]
      by_cases c : 0 ≤ i ∧ i < (Ln : Int)
      · rw [if_pos c]
        exact fs_rg_ti _
      · rw [if_neg c]
        exact z
  · rw [if_neg h9]
    by_cases h1 : r = 1
    · rw [if_pos h1]
      by_cases a : i = 3
      · rw [if_pos a]
        exact ⟨by omega, by omega⟩
      · rw [if_neg a]
        exact z
    · rw [if_neg h1]
      by_cases h2 : r = 124
      · rw [if_pos h2]
        by_cases a : i = 19
        · rw [if_pos a]
          exact ⟨by omega, by omega⟩
        · rw [if_neg a]
          by_cases b : i = 20
          · rw [if_pos b]
            exact ⟨by omega, by omega⟩
          · rw [if_neg b]
            by_cases c : i = 22
            · rw [if_pos c]
              exact ⟨by omega, by omega⟩
            · rw [if_neg c]
              by_cases d : i = 24
              · rw [if_pos d]
                exact ⟨by omega, by omega⟩
              · rw [if_neg d]
                exact z
      · rw [if_neg h2]
        exact z
theorem fs_m0L {Ln : Nat} {xs : Nat → Int32} : fs_m0 Ln xs 999 (-1) = Ln := rfl
theorem fs_m0x {Ln : Nat} {xs : Nat → Int32} {j : Nat} (h : j < Ln) : fs_m0 Ln xs 999 j = (xs j).toInt := by
  unfold fs_m0
  rw [if_pos rfl, if_neg (by omega), if_pos ⟨by omega, by omega⟩, Int.toNat_natCast]
theorem fs_m0zz {Ln : Nat} {xs : Nat → Int32} {r : Nat} (h1 : r ≠ 1) (h2 : r ≠ 124) (h3 : r ≠ 999) : fs_m0 Ln xs r = fun _ => 0 := by
  funext j
  exact fs_m0z h1 h2 h3 j
theorem fs_m0R {Ln : Nat} {xs : Nat → Int32} : LR (fs_m0 Ln xs) := by
  have e : ∀ r, r ≠ 1 → r ≠ 124 → r ≠ 999 → fs_m0 Ln xs r = fun _ => 0 := fun r a b c => fs_m0zz a b c
  have e4 : fs_m0 Ln xs 124 4 = 0 := rfl
  refine ⟨?_, ?_, ?_, ?_, ?_, ?_⟩
  · rw [e 125 (by decide) (by decide) (by decide)]
    unfold vw
    simp only [e 5 (by decide) (by decide) (by decide), e (5 + 1) (by decide) (by decide) (by decide), e (5 + 2) (by decide) (by decide) (by decide), e (5 + 3) (by decide) (by decide) (by decide), e (5 + 4) (by decide) (by decide) (by decide), e (5 + 5) (by decide) (by decide) (by decide), e (5 + 6) (by decide) (by decide) (by decide)]
    exact ⟨trivial, trivial, fun _ _ _ => ⟨trivial, trivial⟩, fun _ _ _ _ _ _ _ => trivial, fun _ _ _ _ _ _ => trivial, fun _ _ _ _ _ _ => trivial, fun _ _ _ => trivial, fun _ _ _ _ _ _ _ _ _ => trivial⟩
  · rw [e4]
    refine ⟨by rw [e 0 (by decide) (by decide) (by decide)], by omega, by rw [e 0 (by decide) (by decide) (by decide)]; exact ⟨by decide, by decide⟩, fun j j0 j1 => by omega⟩
  · rw [e 125 (by decide) (by decide) (by decide)]
    exact KP_zero
  · intro j j0 j1
    rw [e4] at j1
    omega
  · have a : fs_m0 Ln xs 1 1 = 0 := rfl
    have b : fs_m0 Ln xs 124 6 = 0 := rfl
    rw [a, b]
    omega
  · rw [e 2 (by decide) (by decide) (by decide), e 128 (by decide) (by decide) (by decide)]
