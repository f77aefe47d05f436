/-! the memory behind the constructors -/
def fs_m0 (Ln : Nat) (xs : Nat → Int32) : fs_M := fun r i => if r = 999 then (if i = -1 then (Ln : Int) else if 0 ≤ i ∧ i < (Ln : Int) then (xs i.toNat).toInt else 0) else if r = 1 then (if i = 3 then -1 else 0)
  else if r = 124 then (if i = 19 then -1 else if i = 20 then 360 else if i = 22 then -1 else if i = 24 then 100 else 0) else 0
theorem fs_m0z {Ln : Nat} {xs : Nat → Int32} {r : Nat} (h1 : r ≠ 1) (h2 : r ≠ 124) (h3 : r ≠ 999) (j : Int) : fs_m0 Ln xs r j = 0 := by
  unfold fs_m0
  rw [if_neg h3, if_neg h1, if_neg h2]
abbrev fs_F (o : Nat) (cA cB : ClassId) (Ln : Nat) (xs : Nat → Int32) : Nat → va_E := fs_en o cA cB (fs_m0 Ln xs)
def fs_bf (o i : Nat) : Nat → Option Nat := fun j => if j < i then some (o + (40 + 7 * j)) else none
def fs_bx (cB : ClassId) (o i : Nat) : va_E := .inl (cB, 12, .inr (.inr (.inr (.inr (fs_bf o i)))))
theorem fs_bf0 {o : Nat} : fs_bf o 0 = fun _ => none := by
  funext j
  exact if_neg (by omega)
theorem fs_bfs {o i : Nat} : va_up (fs_bf o i) i (some (o + (40 + 7 * i))) = fs_bf o (i + 1) := by
  funext j
  unfold va_up fs_bf
  by_cases h : j = i
  · rw [if_pos h, if_pos (by omega), h]
  · rw [if_neg h]
    by_cases h2 : j < i
    · rw [if_pos h2, if_pos (by omega)]
    · rw [if_neg h2, if_neg (by omega)]
theorem fs_o2 {E : Nat → va_E} {b x : va_E} {q : Nat} (h : q ≠ 0) (h2 : q ≠ 19) : fs_ov (fs_ov E 19 b) 0 x q = E q := (fs_ov_ne h).trans (fs_ov_ne h2)
theorem fs_o19 {E : Nat → va_E} {b x : va_E} : fs_ov (fs_ov E 19 b) 0 x 19 = b := (fs_ov_ne (by decide)).trans fs_ov_at
theorem fs_o19s {E : Nat → va_E} {b b' x : va_E} : fs_ov (fs_ov (fs_ov E 19 b) 0 x) 19 b' = fs_ov (fs_ov E 19 b') 0 x := by
  funext q
  by_cases h : q = 19
  · subst h
    rw [fs_ov_at, fs_o19]
  · rw [fs_ov_ne h]
    by_cases h0 : q = 0
    · subst h0
      rw [fs_ov_at, fs_ov_at]
    · rw [fs_o2 h0 h, fs_o2 h0 h]
theorem fs_hcZ {a b o h sz : Nat} (hs : sz = o + 1) (hz : h = o + a) (e : a = 1 + b) : h = sz + b := by omega
/-- the full row of Books -/
theorem fs_bkP {D : va_G} {o n : Nat} {cA cB : ClassId} {Ln : Nat} {xs : Nat → Int32} {H : Heap} (h : va_P D vwCl (fs_wz o n (fs_ov (fs_F o cA cB Ln xs) 19 (fs_bx cB o 12))) H) : va_P D vwCl (fs_wz o n (fs_F o cA cB Ln xs)) H := by
  intro k q hk
  have key := fs_wz_key hk
  rw [fs_wz_get key.1] at hk
  cases hk
  have w := h k _ (fs_wz_get key.1)
  by_cases e : k = 19
  · subst e
    rw [fs_ov_at] at w
    have w : H[o + 19]? = some (vp_cell cB (12, .inr (.inr (.inr (.inr (fs_bf o 12)))))) := w
    show H[o + 19]? = some (vp_cell cB (12, .inr (.inr (.inr (.inr (fun i => some (o + (40 + 7 * i))))))))
    rw [w, vp_cell_q, vp_cell_q]
    unfold arrV
    congr 3
    funext j
    show va_rf (fs_bf o 12 j.val) = va_rf (some (o + (40 + 7 * j.val)))
    unfold fs_bf
    rw [if_pos j.2]
  · rw [fs_ov_ne e] at w
    exact w
section FsInit
variable {p : Program} {l : Launch} {e : Env} {R : Room} {s : State} {m : MethodId} {args : Array Value} {below : List Frame} {meth : Method} {c : Code} {H : Heap} {locs : List Loc} {cells slots : Nat} {Q : State → Prop} {cc : ByteArray} {pc : Nat} {ls : Array Slot} {rest : List Value}
variable {dC : Nat → ClassId} {dI : Nat → Nat → Nat} {o n n' : Nat} {cA cB : ClassId} {own : String} {E : Nat → va_E}
theorem fs_newqZ {index : Nat} {k : Int32} (hx : p.tables.exec = Jvm.exec) (hb : c.code = cc) (hts : ∀ w ∈ fs_good, w.before args s = true) (hown : s.vm.findClass own = some m.cls) (hAO : va_AO "FireSale$Book" s) (hK : va_K (dC, dI) vwCl (fs_tys cA cB) s) (ho : o ≤ s.heap.size) (hn : n' = n + 1) (hz : H.size = o + n) (hc : H.size = s.heap.size + cells)
    (hP : va_P (dC, dI) vwCl (fs_wz o n E) H) (hS : va_S (fun q => o ≤ q) s.heap H locs) (hEn : E n = .inl (cB, 12, .inr (.inr (.inr (.inr (fun _ => none)))))) (hcl : Cond.classLink own index "FireSale$Book" ∈ fs_good) (hk : ¬ k < 0) (hN : k.toNatClampNeg = 12) (hcells : cells + 1 ≤ R.cells) (hslots : slots + 12 ≤ R.slots) (hdg : decode cc pc = .ok (.anewarray index, 3))
    (kk : ∀ H1 : Heap, H1.size = o + n' → H1.size = s.heap.size + (cells + 1) → va_P (dC, dI) vwCl (fs_wz o n' E) H1 → va_S (fun q => o ≤ q) s.heap H1 locs → W p l e R s m args below meth c H1 locs (cells + 1) (slots + 12) Q (F0 m (pc + 3) ls (.ref (o + n) :: rest))) : W p l e R s m args below meth c H locs cells slots Q (F0 m pc ls (.int k :: rest)) := by
  subst hn
  refine va_newq (D := (dC, dI)) hx hb hown (hts _ hcl) hAO hK hP fs_wz_D hS (fun q h => Nat.le_trans ho h) hk hN (by decide) hcells hslots hdg (fun q cA' H1 hK1 hP1 hD1 hS1 => fs_szW (fun hle => ?_))
  obtain ⟨rfl, z⟩ := fs_nq hD1 hP1 (by omega)
  have a1 : va_RA s cA' (.object "FireSale$Book") := (hK1.2 2 (cA', .object "FireSale$Book") rfl).2
  have a2 : va_RA s cB (.object "FireSale$Book") := (hK.2 1 (cB, .object "FireSale$Book") rfl).2
  obtain ⟨-, -, -, -, -, b1⟩ := a1
  obtain ⟨-, -, -, -, -, b2⟩ := a2
  have ea : cA' = cB := Option.some.inj (b1.symm.trans b2)
  subst ea
  have e1 : fs_wz o n E ++ [(o + n, .inl (cA', 12, .inr (.inr (.inr (.inr (fun _ => none))))))] = fs_wz o (n + 1) E := by rw [← hEn, fs_wz_app]
  rw [e1] at hP1
  exact kk H1 z (by omega) hP1 hS1
theorem fs_astZ {i : Nat} {X : va_E} {vs : List Value} (hx : p.tables.exec = Jvm.exec) (hb : c.code = cc) (hK : va_K (dC, dI) vwCl (fs_tys cA cB) s) (hz : H.size = o + n) (hc : H.size = s.heap.size + cells)
    (hP : va_P (dC, dI) vwCl (fs_wz o n (fs_ov (fs_ov E 19 (fs_bx cB o i)) 0 X)) H) (hS : va_S (fun q => o ≤ q) s.heap H locs) (hi : i < 12) (hn : 40 + 7 * i < n) (hE : E (40 + 7 * i) = .inr (0, vs)) (hdg : decode cc pc = .ok (.aastore, 1))
    (kk : ∀ (H1 : Heap) (locs1 : List Loc), H1.size = o + n → H1.size = s.heap.size + cells → va_P (dC, dI) vwCl (fs_wz o n (fs_ov (fs_ov E 19 (fs_bx cB o (i + 1))) 0 X)) H1 → va_S (fun q => o ≤ q) s.heap H1 locs1 → W p l e R s m args below meth c H1 locs1 cells slots Q (F0 m (pc + 1) ls rest)) :
    W p l e R s m args below meth c H locs cells slots Q (F0 m pc ls (.ref (o + (40 + 7 * i)) :: .int (Int32.ofInt (i : Int)) :: .ref (o + 19) :: rest)) := by
  have hin : vp_in (Int32.ofInt (i : Int)) 12 := fs_in (n := 12) ⟨by omega, by omega⟩ (by omega) (by omega)
  have hcl : (Int32.ofInt (i : Int)).toNatClampNeg = i := (fs_nn ⟨by omega, by omega⟩).trans (Int.toNat_natCast i)
  refine va_astq (D := (dC, dI)) hx hb hK hP fs_wz_D hS 19 1 (40 + 7 * i) 0 (by rw [fs_wz_get (by omega), fs_o19]; rfl) rfl (by rw [fs_wz_get hn, fs_o2 (by omega) (by omega), hE]) (fs_clget 0 (by decide)) hin hdg (fun H1 locs1 hP1 _ hS1 => fs_szW (fun hle => ?_))
  rw [hcl, fs_bfs, fs_wz_set (by omega), show (.inl (cB, 12, .inr (.inr (.inr (.inr (fs_bf o (i + 1)))))) : va_E) = fs_bx cB o (i + 1) from rfl, fs_o19s] at hP1
  have := fs_szP hP1 (by omega)
  exact kk H1 locs1 (by omega) (by omega) hP1 hS1
end FsInit
def fs_nwi : List (String × Nat × MethodName) := [("FireSale", 9, ⟨"FireSale$Tape", "<init>", "()V"⟩), ("FireSale", 18, ⟨"FireSale$Speller", "<init>", "()V"⟩), ("FireSale", 25, ⟨"FireSale$Book", "<init>", "()V"⟩), ("FireSale", 46, ⟨"FireSale$Market", "<init>", "()V"⟩), ("FireSale", 53, ⟨"FireSale$State", "<init>", "()V"⟩)]
theorem fs_dI5_0 : decode prog_1_method_1_code 0 = .ok (.aload_n 0, 1) := by decide +kernel
theorem fs_dI5_1 : decode prog_1_method_1_code 1 = .ok (.invokespecial 1, 3) := by decide +kernel
theorem fs_dI5_4 : decode prog_1_method_1_code 4 = .ok (.aload_n 0, 1) := by decide +kernel
theorem fs_dI5_5 : decode prog_1_method_1_code 5 = .ok (.new 7, 3) := by decide +kernel
theorem fs_dI5_8 : decode prog_1_method_1_code 8 = .ok (.dup, 1) := by decide +kernel
theorem fs_dI5_9 : decode prog_1_method_1_code 9 = .ok (.invokespecial 9, 3) := by decide +kernel
theorem fs_dI5_12 : decode prog_1_method_1_code 12 = .ok (.putfield 10, 3) := by decide +kernel
theorem fs_dI5_15 : decode prog_1_method_1_code 15 = .ok (.aload_n 0, 1) := by decide +kernel
theorem fs_dI5_16 : decode prog_1_method_1_code 16 = .ok (.new 16, 3) := by decide +kernel
theorem fs_dI5_19 : decode prog_1_method_1_code 19 = .ok (.dup, 1) := by decide +kernel
theorem fs_dI5_20 : decode prog_1_method_1_code 20 = .ok (.invokespecial 18, 3) := by decide +kernel
theorem fs_dI5_23 : decode prog_1_method_1_code 23 = .ok (.putfield 19, 3) := by decide +kernel
theorem fs_dI5_26 : decode prog_1_method_1_code 26 = .ok (.aload_n 0, 1) := by decide +kernel
theorem fs_dI5_27 : decode prog_1_method_1_code 27 = .ok (.new 23, 3) := by decide +kernel
theorem fs_dI5_30 : decode prog_1_method_1_code 30 = .ok (.dup, 1) := by decide +kernel
theorem fs_dI5_31 : decode prog_1_method_1_code 31 = .ok (.invokespecial 25, 3) := by decide +kernel
theorem fs_dI5_34 : decode prog_1_method_1_code 34 = .ok (.putfield 26, 3) := by decide +kernel
theorem fs_dI5_37 : decode prog_1_method_1_code 37 = .ok (.aload_n 0, 1) := by decide +kernel
theorem fs_dI5_38 : decode prog_1_method_1_code 38 = .ok (.new 23, 3) := by decide +kernel
theorem fs_dI5_41 : decode prog_1_method_1_code 41 = .ok (.dup, 1) := by decide +kernel
theorem fs_dI5_42 : decode prog_1_method_1_code 42 = .ok (.invokespecial 25, 3) := by decide +kernel
theorem fs_dI5_45 : decode prog_1_method_1_code 45 = .ok (.putfield 30, 3) := by decide +kernel
theorem fs_dI5_48 : decode prog_1_method_1_code 48 = .ok (.aload_n 0, 1) := by decide +kernel
theorem fs_dI5_49 : decode prog_1_method_1_code 49 = .ok (.bipush 12, 2) := by decide +kernel
theorem fs_dI5_51 : decode prog_1_method_1_code 51 = .ok (.anewarray 23, 3) := by decide +kernel
theorem fs_dI5_54 : decode prog_1_method_1_code 54 = .ok (.putfield 33, 3) := by decide +kernel
theorem fs_dI5_57 : decode prog_1_method_1_code 57 = .ok (.aload_n 0, 1) := by decide +kernel
theorem fs_dI5_58 : decode prog_1_method_1_code 58 = .ok (.iconst 0, 1) := by decide +kernel
theorem fs_dI5_59 : decode prog_1_method_1_code 59 = .ok (.putfield 37, 3) := by decide +kernel
theorem fs_dI5_62 : decode prog_1_method_1_code 62 = .ok (.aload_n 0, 1) := by decide +kernel
theorem fs_dI5_63 : decode prog_1_method_1_code 63 = .ok (.iconst 0, 1) := by decide +kernel
theorem fs_dI5_64 : decode prog_1_method_1_code 64 = .ok (.putfield 41, 3) := by decide +kernel
theorem fs_dI5_67 : decode prog_1_method_1_code 67 = .ok (.aload_n 0, 1) := by decide +kernel
theorem fs_dI5_68 : decode prog_1_method_1_code 68 = .ok (.new 44, 3) := by decide +kernel
theorem fs_dI5_71 : decode prog_1_method_1_code 71 = .ok (.dup, 1) := by decide +kernel
theorem fs_dI5_72 : decode prog_1_method_1_code 72 = .ok (.invokespecial 46, 3) := by decide +kernel
theorem fs_dI5_75 : decode prog_1_method_1_code 75 = .ok (.putfield 47, 3) := by decide +kernel
theorem fs_dI5_78 : decode prog_1_method_1_code 78 = .ok (.aload_n 0, 1) := by decide +kernel
theorem fs_dI5_79 : decode prog_1_method_1_code 79 = .ok (.new 51, 3) := by decide +kernel
theorem fs_dI5_82 : decode prog_1_method_1_code 82 = .ok (.dup, 1) := by decide +kernel
theorem fs_dI5_83 : decode prog_1_method_1_code 83 = .ok (.invokespecial 53, 3) := by decide +kernel
theorem fs_dI5_86 : decode prog_1_method_1_code 86 = .ok (.putfield 54, 3) := by decide +kernel
theorem fs_dI5_89 : decode prog_1_method_1_code 89 = .ok (.aload_n 0, 1) := by decide +kernel
theorem fs_dI5_90 : decode prog_1_method_1_code 90 = .ok (.new 51, 3) := by decide +kernel
theorem fs_dI5_93 : decode prog_1_method_1_code 93 = .ok (.dup, 1) := by decide +kernel
theorem fs_dI5_94 : decode prog_1_method_1_code 94 = .ok (.invokespecial 53, 3) := by decide +kernel
theorem fs_dI5_97 : decode prog_1_method_1_code 97 = .ok (.putfield 58, 3) := by decide +kernel
theorem fs_dI5_100 : decode prog_1_method_1_code 100 = .ok (.aload_n 0, 1) := by decide +kernel
theorem fs_dI5_101 : decode prog_1_method_1_code 101 = .ok (.bipush 6, 2) := by decide +kernel
theorem fs_dI5_103 : decode prog_1_method_1_code 103 = .ok (.newarray .int, 2) := by decide +kernel
theorem fs_dI5_105 : decode prog_1_method_1_code 105 = .ok (.putfield 61, 3) := by decide +kernel
theorem fs_dI5_108 : decode prog_1_method_1_code 108 = .ok (.aload_n 0, 1) := by decide +kernel
theorem fs_dI5_109 : decode prog_1_method_1_code 109 = .ok (.iconst 4, 1) := by decide +kernel
theorem fs_dI5_110 : decode prog_1_method_1_code 110 = .ok (.newarray .int, 2) := by decide +kernel
theorem fs_dI5_112 : decode prog_1_method_1_code 112 = .ok (.putfield 65, 3) := by decide +kernel
theorem fs_dI5_115 : decode prog_1_method_1_code 115 = .ok (.aload_n 0, 1) := by decide +kernel
theorem fs_dI5_116 : decode prog_1_method_1_code 116 = .ok (.bipush 6, 2) := by decide +kernel
theorem fs_dI5_118 : decode prog_1_method_1_code 118 = .ok (.newarray .int, 2) := by decide +kernel
theorem fs_dI5_120 : decode prog_1_method_1_code 120 = .ok (.putfield 68, 3) := by decide +kernel
theorem fs_dI5_123 : decode prog_1_method_1_code 123 = .ok (.aload_n 0, 1) := by decide +kernel
theorem fs_dI5_124 : decode prog_1_method_1_code 124 = .ok (.bipush 6, 2) := by decide +kernel
theorem fs_dI5_126 : decode prog_1_method_1_code 126 = .ok (.newarray .int, 2) := by decide +kernel
theorem fs_dI5_128 : decode prog_1_method_1_code 128 = .ok (.putfield 71, 3) := by decide +kernel
theorem fs_dI5_131 : decode prog_1_method_1_code 131 = .ok (.iconst 0, 1) := by decide +kernel
theorem fs_dI5_132 : decode prog_1_method_1_code 132 = .ok (.istore_n 1, 1) := by decide +kernel
theorem fs_dI5_133 : decode prog_1_method_1_code 133 = .ok (.iload_n 1, 1) := by decide +kernel
theorem fs_dI5_134 : decode prog_1_method_1_code 134 = .ok (.bipush 12, 2) := by decide +kernel
theorem fs_dI5_136 : decode prog_1_method_1_code 136 = .ok (.if_icmp .ge 22, 3) := by decide +kernel
theorem fs_dI5_139 : decode prog_1_method_1_code 139 = .ok (.aload_n 0, 1) := by decide +kernel
theorem fs_dI5_140 : decode prog_1_method_1_code 140 = .ok (.getfield 33, 3) := by decide +kernel
theorem fs_dI5_143 : decode prog_1_method_1_code 143 = .ok (.iload_n 1, 1) := by decide +kernel
theorem fs_dI5_144 : decode prog_1_method_1_code 144 = .ok (.new 23, 3) := by decide +kernel
theorem fs_dI5_147 : decode prog_1_method_1_code 147 = .ok (.dup, 1) := by decide +kernel
theorem fs_dI5_148 : decode prog_1_method_1_code 148 = .ok (.invokespecial 25, 3) := by decide +kernel
theorem fs_dI5_151 : decode prog_1_method_1_code 151 = .ok (.aastore, 1) := by decide +kernel
theorem fs_dI5_152 : decode prog_1_method_1_code 152 = .ok (.iinc 1 1, 3) := by decide +kernel
theorem fs_dI5_155 : decode prog_1_method_1_code 155 = .ok (.goto (-22), 3) := by decide +kernel
theorem fs_dI5_158 : decode prog_1_method_1_code 158 = .ok (.return_, 1) := by decide +kernel
set_option maxHeartbeats 4000000 in
theorem fs_rnd {p : Program} {l : Launch} {e : Env} {R : Room} {s : State} {m : MethodId} {args : Array Value} {below : List Frame} {meth : Method} {c : Code} {H : Heap} {locs : List Loc} {cells slots : Nat} {Q : State → Prop} {ls : Array Slot} {dC : Nat → ClassId} {dI : Nat → Nat → Nat} {o i : Nat} {cA cB : ClassId} {F : Nat → va_E} {FS : List Value}
    (hx : p.tables.exec = Jvm.exec) (hb : c.code = prog_1_method_1_code) (hml : c.maxLocals = 2) (hts : ∀ w ∈ fs_good, w.before args s = true) (hown : s.vm.findClass "FireSale" = some m.cls) (hNw : ∀ q ∈ fs_nwi, va_Nw (.methodLinkNest q.1 q.2.1 q.2.2 "FireSale") s) (hK : va_K (dC, dI) vwCl (fs_tys cA cB) s) (hso : s.heap.size = o + 1)
    (hi : i < 12) (hF0 : F (40 + 7 * i) = .inr (0, [.int 0, .int 0, .ref (o + (40 + 7 * i + 1 + 0)), .ref (o + (40 + 7 * i + 1 + 1)), .ref (o + (40 + 7 * i + 1 + 2)), .ref (o + (40 + 7 * i + 1 + 3)), .ref (o + (40 + 7 * i + 1 + 4)), .ref (o + (40 + 7 * i + 1 + 5))])) (hFa : ∀ j, j < 6 → F (40 + 7 * i + 1 + j) = .inl (cA, ([8, 30, 24, 36, 3, 36] : List Nat).getD j 0, .inl (fun _ => 0))) (h4 : FS[4]? = some (.ref (o + 19)))
    (hR : (cells + 7 ≤ R.cells ∧ slots + 145 ≤ R.slots) ∧ 2 ≤ R.frames ∧ 32 ≤ R.locals) (hz : H.size = o + (40 + 7 * i)) (hc : H.size = s.heap.size + cells) (hP : va_P (dC, dI) vwCl (fs_wz o (40 + 7 * i) (fs_ov (fs_ov F 19 (fs_bx cB o i)) 0 (.inr (5, FS)))) H) (hS : va_S (fun q => o ≤ q) s.heap H locs) (hl : lv_has ls 2 [(1, .int (Int32.ofInt (i : Int))), (0, .ref (o + 0))])
    (kk : ∀ (H1 : Heap) (locs1 : List Loc) (ls1 : Array Slot), H1.size = o + (40 + 7 * (i + 1)) → H1.size = s.heap.size + (cells + 7) → va_P (dC, dI) vwCl (fs_wz o (40 + 7 * (i + 1)) (fs_ov (fs_ov F 19 (fs_bx cB o (i + 1))) 0 (.inr (5, FS)))) H1 → va_S (fun q => o ≤ q) s.heap H1 locs1 → lv_has ls1 2 [(1, .int (Int32.ofInt ((i + 1 : Nat) : Int))), (0, .ref (o + 0))] → W p l e R s m args below meth c H1 locs1 (cells + 7) (slots + 145) Q (F0 m 133 ls1 [])) : W p l e R s m args below meth c H locs cells slots Q (F0 m 133 ls []) := by
  have ho : o ≤ s.heap.size := by omega
  have hR1 : cells + 1 ≤ R.cells := by omega
  have hR2 : slots + 8 ≤ R.slots := by omega
  have hR3 : cells + 1 + 6 ≤ R.cells := by omega
  have hR4 : slots + 8 + 137 ≤ R.slots := by omega
  have hge : ¬ Int32.ofInt 12 ≤ Int32.ofInt (i : Int) := fun z => absurd ((fs_le ⟨by omega, by omega⟩ ⟨by omega, by omega⟩).mp z) (by omega)
  refine lv_iload_n hx hb fs_dI5_133 rfl (lv_at hl 0 rfl) ?_
  refine lv_bipush (v := Int32.ofInt 12) hx hb fs_dI5_134 (by decide +kernel) ?_
  refine lv_icmp_ge (tgt := 158) hx hb fs_dI5_136 (by decide) (fun z => absurd z hge) (fun _ => ?_)
  refine lv_aload_n hx hb fs_dI5_139 rfl (lv_at hl 1 rfl) ?_
  refine va_get (D := (dC, dI)) (ci := 5) (v := .ref (o + 19)) (C := fs_rn 5) (T := fs_T 5) (N := fs_n 5) hx hb hts (fs_inok 5 (by decide)) hown hK hP 0 (by rw [fs_wz_get (by omega), fs_ov_at]) (fs_clget 5 (by decide)) 4 (by decide) (hts _ (fs_ok_mem (p := 298) (by decide +kernel))) (fun x q => q) h4 fs_dI5_140 ?_
  refine lv_iload_n hx hb fs_dI5_143 rfl (lv_at hl 0 rfl) ?_
  refine fs_newZ (E := fs_ov (fs_ov F 19 (fs_bx cB o i)) 0 (.inr (5, FS))) (E' := fs_ov (fs_ov (fs_ov F 19 (fs_bx cB o i)) 0 (.inr (5, FS))) (40 + 7 * i) (.inr (0, fs_df 0))) (n' := (40 + 7 * i) + 1) (ci := 0) hx hb hts hown hK ho rfl hz hc hP hS (by decide) (fun r hr => fs_ov_ne (Nat.ne_of_lt hr)) fs_ov_at (fs_ok_mem (p := 172) (by decide +kernel)) (fs_ok_mem (p := 173) (by decide +kernel)) (fs_ok_mem (p := 107) (by decide +kernel)) hR1 hR2 fs_dI5_144 (fun H hz hc hP hS => ?_)
  refine lv_dup hx hb fs_dI5_147 rfl ?_
  refine va_callv (va_runIN (As := []) (b := o + (40 + 7 * i)) (rest := [.ref (o + (40 + 7 * i)), .int (Int32.ofInt (i : Int)), .ref (o + 19)]) ⟨hx, hb, hml, hown, hts⟩ (fs_init_0 l (dC := dC) (dI := dI) (o := o) (n := ((40 + 7 * i) + 1)) (r0 := (40 + 7 * i)) (cA := cA) (cB := cB) (E := fs_ov (fs_ov (fs_ov F 19 (fs_bx cB o i)) 0 (.inr (5, FS))) (40 + 7 * i) (.inr (0, fs_df 0))) (E' := fs_ov (fs_ov F 19 (fs_bx cB o i)) 0 (.inr (5, FS))) (Nat.lt_succ_self _) fs_ov_at (fun q _ h => (fs_ov_ne h).symm) ((fs_o2 (by omega) (by omega)).trans hF0) (fun j hj => (fs_o2 (by omega) (by omega)).trans (hFa j hj))) ⟨va_cnB 0 hts (fs_goodIn (fs_ok_mem (p := 176) (by decide +kernel))) rfl rfl rfl (hNw _ (List.mem_of_getElem? (i := 2) rfl)) (hts _ (fs_ok_mem (p := 107) (by decide +kernel))) (by decide +kernel) ⟨hR.2.1, hR.2.2⟩, rfl, hts _ (fs_ok_mem (p := 175) (by decide +kernel))⟩ ⟨fun a U g mk q => ⟨q.1, q.2.1, va_K.moved (u := U) (U := U.calling g mk a) (Vm.Alike.refl U.vm) q.2.2⟩, fun U hU hW => ⟨rfl, ⟨by rw [hU]; exact hz, by rw [hU]; exact hP⟩, va_K.moved hW.alike hK⟩⟩ rfl rfl hl.1 rfl (lv_room (Nat.le_of_ble_eq_true rfl)) fs_dI5_148 ⟨hR3, hR4⟩) hS (fun q _ h => h) (fun q h => h) (fun u t H locs ht hvm hw hBt hz1 hk1 hS => ?_)
  rw [ht] at hBt
  obtain ⟨hz, hP⟩ := hBt
  have hz : H.size = o + (40 + 7 * (i + 1)) := hz.trans (by rw [show 40 + 7 * i + 1 + 6 = 40 + 7 * (i + 1) by omega])
  rw [show 40 + 7 * i + 1 + 6 = 40 + 7 * (i + 1) by omega] at hP
  have hc : H.size = s.heap.size + (cells + 1 + 6) := by rw [hz]; omega
  refine fs_astZ (X := .inr (5, FS)) hx hb hK hz hc hP hS hi (by omega) hF0 fs_dI5_151 (fun H locs hz hc hP hS => ?_)
  refine lv_iinc (k := 0) (v := Int32.ofInt ((i + 1 : Nat) : Int)) hx hb fs_dI5_152 hl rfl (by rw [← Int32.ofInt_add]; rfl) (by decide) rfl (fun ls' h8 => ?_)
  refine lv_goto (tgt := 133) hx hb fs_dI5_155 (by decide) ?_
  exact kk H locs ls' hz hc hP hS h8
