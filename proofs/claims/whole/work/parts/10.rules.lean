/-! Rules of the small machine, to walk methods backwards -/
theorem fs_mono1 : ∀ (n d mid pc : Nat) (L : fs_L) (st : List fs_V) (M : fs_M) (r : Option fs_V × fs_M), fs_run n d mid pc L st M = some r → fs_run (n + 1) d mid pc L st M = some r := by
  intro n
  induction n with
  | zero =>
    intro d mid pc L st M r h
    simp only [fs_run] at h
    cases h
  | succ n ih =>
    intro d mid pc L st M r h
    rw [fs_run] at h ⊢
    cases hbl : fs_bl mid pc with
    | none => rw [hbl] at h; cases h
    | some B =>
      obtain ⟨is, tpc, t⟩ := B
      rw [hbl] at h
      dsimp only at h ⊢
      generalize fs_ex is L st M = RR at h ⊢
      obtain ⟨ob, L1, st1, M1⟩ := RR
      dsimp only at h ⊢
      by_cases ho : fs_all ob
      · rw [if_pos ho] at h ⊢
        obtain ⟨ti, tl, x1, x2, x3⟩ := t
        cases ti
        case nop => exact ih _ _ _ _ _ _ _ h
        case goto off => exact ih _ _ _ _ _ _ _ h
        case ifCond cnd off =>
          dsimp only at h ⊢
          split at h
          · next a rr =>
            by_cases q : fs_cd cnd a 0
            · rw [if_pos q] at h ⊢
              exact ih _ _ _ _ _ _ _ h
            · rw [if_neg q] at h ⊢
              exact ih _ _ _ _ _ _ _ h
          · cases h
        case if_icmp cnd off =>
          dsimp only at h ⊢
          split at h
          · next y a rr =>
            by_cases q : fs_cd cnd a y
            · rw [if_pos q] at h ⊢
              exact ih _ _ _ _ _ _ _ h
            · rw [if_neg q] at h ⊢
              exact ih _ _ _ _ _ _ _ h
          · cases h
        case tableswitch df lo hi offs =>
          dsimp only at h ⊢
          split at h
          · exact ih _ _ _ _ _ _ _ h
          · cases h
        case invokevirtual idx =>
          cases d with
          | zero => cases h
          | succ d' =>
            dsimp only at h ⊢
            by_cases q : x2.toNat ≤ st1.length ∧ fs_cats (st1.drop x2.toNat) ≤ 8 ∧ fs_rcv false x1 (st1.take x2.toNat).reverse
            · rw [if_pos q] at h ⊢
              by_cases hn : 900 ≤ x1
              · rw [if_pos hn] at h ⊢
                cases hv : fs_natd d' x1 (st1.take x2.toNat).reverse with
                | none => rw [hv] at h; cases h
                | some w =>
                  rw [hv] at h
                  exact ih _ _ _ _ _ _ _ h
              · rw [if_neg hn] at h ⊢
                cases hr : fs_run n d' x1 0 (fs_ent (fs_me x1).2.2.1 (st1.take x2.toNat).reverse) [] M1 with
                | none => rw [hr] at h; cases h
                | some w =>
                  rw [hr] at h
                  rw [ih _ _ _ _ _ _ _ hr]
                  exact ih _ _ _ _ _ _ _ h
            · rw [if_neg q] at h
              cases h
        case invokestatic idx =>
          cases d with
          | zero => cases h
          | succ d' =>
            dsimp only at h ⊢
            by_cases q : x2.toNat ≤ st1.length ∧ fs_cats (st1.drop x2.toNat) ≤ 8 ∧ fs_rcv true x1 (st1.take x2.toNat).reverse
            · rw [if_pos q] at h ⊢
              by_cases hn : 900 ≤ x1
              · rw [if_pos hn] at h ⊢
                cases hv : fs_natd d' x1 (st1.take x2.toNat).reverse with
                | none => rw [hv] at h; cases h
                | some w =>
                  rw [hv] at h
                  exact ih _ _ _ _ _ _ _ h
              · rw [if_neg hn] at h ⊢
                cases hr : fs_run n d' x1 0 (fs_ent (fs_me x1).2.2.1 (st1.take x2.toNat).reverse) [] M1 with
                | none => rw [hr] at h; cases h
                | some w =>
                  rw [hr] at h
                  rw [ih _ _ _ _ _ _ _ hr]
                  exact ih _ _ _ _ _ _ _ h
            · rw [if_neg q] at h
              cases h
        all_goals exact h
      · rw [if_neg ho] at h
        cases h
theorem fs_mono {n k d mid pc : Nat} {L : fs_L} {st : List fs_V} {M : fs_M} {r : Option fs_V × fs_M} (hk : n ≤ k) (h : fs_run n d mid pc L st M = some r) : fs_run k d mid pc L st M = some r := by
  obtain ⟨j, rfl⟩ := Nat.exists_eq_add_of_le hk
  clear hk
  induction j with
  | zero => exact h
  | succ j ih => exact fs_mono1 _ _ _ _ _ _ _ _ ih
/-- from here the run comes to an end, with Q -/
def fs_W (d mid pc : Nat) (L : fs_L) (st : List fs_V) (M : fs_M) (Q : Option fs_V → fs_M → Prop) : Prop := ∃ (n : Nat) (v : Option fs_V) (M' : fs_M), fs_run n d mid pc L st M = some (v, M') ∧ Q v M'
theorem fs_W.mono {d mid pc : Nat} {L : fs_L} {st : List fs_V} {M : fs_M} {Q Q' : Option fs_V → fs_M → Prop} (h : fs_W d mid pc L st M Q) (hq : ∀ v M', Q v M' → Q' v M') : fs_W d mid pc L st M Q' := by
  obtain ⟨n, v, M', h1, h2⟩ := h
  exact ⟨n, v, M', h1, hq v M' h2⟩
section FsRules
variable {d mid pc tpc : Nat} {L L1 : fs_L} {st st1 : List fs_V} {M M1 : fs_M} {Q : Option fs_V → fs_M → Prop} {ob : List Prop} {is : List fs_I} {tl x1 x3 : Nat} {x2 : Int}
theorem fs_r_nop (hb : fs_bl mid pc = some (is, tpc, .nop, tl, x1, x2, x3)) (he : fs_ex is L st M = (ob, L1, st1, M1)) (ho : fs_all ob) (k : fs_W d mid tpc L1 st1 M1 Q) : fs_W d mid pc L st M Q := by
  obtain ⟨n, v, M', h1, h2⟩ := k
  refine ⟨n + 1, v, M', ?_, h2⟩
  rw [fs_run, hb]
  dsimp only
  rw [he]
  dsimp only
  rw [if_pos ho]
  exact h1
theorem fs_r_goto {off : Int} (hb : fs_bl mid pc = some (is, tpc, .goto off, tl, x1, x2, x3)) (he : fs_ex is L st M = (ob, L1, st1, M1)) (ho : fs_all ob) (k : fs_W d mid x1 L1 st1 M1 Q) : fs_W d mid pc L st M Q := by
  obtain ⟨n, v, M', h1, h2⟩ := k
  refine ⟨n + 1, v, M', ?_, h2⟩
  rw [fs_run, hb]
  dsimp only
  rw [he]
  dsimp only
  rw [if_pos ho]
  exact h1
theorem fs_r_if {c : Jvm.ClassFile.Cond} {off a : Int} (hb : fs_bl mid pc = some (is, tpc, .ifCond c off, tl, x1, x2, x3)) (he : fs_ex is L st M = (ob, L1, .inl a :: st1, M1)) (ho : fs_all ob)
    (kt : fs_cd c a 0 → fs_W d mid x1 L1 st1 M1 Q) (kf : ¬ fs_cd c a 0 → fs_W d mid (tpc + 3) L1 st1 M1 Q) : fs_W d mid pc L st M Q := by
  by_cases q : fs_cd c a 0
  · obtain ⟨n, v, M', h1, h2⟩ := kt q
    refine ⟨n + 1, v, M', ?_, h2⟩
    rw [fs_run, hb]
    dsimp only
    rw [he]
    dsimp only
    rw [if_pos ho, if_pos q]
    exact h1
  · obtain ⟨n, v, M', h1, h2⟩ := kf q
    refine ⟨n + 1, v, M', ?_, h2⟩
    rw [fs_run, hb]
    dsimp only
    rw [he]
    dsimp only
    rw [if_pos ho, if_neg q]
    exact h1
theorem fs_r_icmp {c : Jvm.ClassFile.Cond} {off a y : Int} (hb : fs_bl mid pc = some (is, tpc, .if_icmp c off, tl, x1, x2, x3)) (he : fs_ex is L st M = (ob, L1, .inl y :: .inl a :: st1, M1)) (ho : fs_all ob)
    (kt : fs_cd c a y → fs_W d mid x1 L1 st1 M1 Q) (kf : ¬ fs_cd c a y → fs_W d mid (tpc + 3) L1 st1 M1 Q) : fs_W d mid pc L st M Q := by
  by_cases q : fs_cd c a y
  · obtain ⟨n, v, M', h1, h2⟩ := kt q
    refine ⟨n + 1, v, M', ?_, h2⟩
    rw [fs_run, hb]
    dsimp only
    rw [he]
    dsimp only
    rw [if_pos ho, if_pos q]
    exact h1
  · obtain ⟨n, v, M', h1, h2⟩ := kf q
    refine ⟨n + 1, v, M', ?_, h2⟩
    rw [fs_run, hb]
    dsimp only
    rw [he]
    dsimp only
    rw [if_pos ho, if_neg q]
    exact h1
theorem fs_r_sw {df lo hi a : Int} {offs : Array Int} (hb : fs_bl mid pc = some (is, tpc, .tableswitch df lo hi offs, tl, x1, x2, x3)) (he : fs_ex is L st M = (ob, L1, .inl a :: st1, M1)) (ho : fs_all ob)
    (k : fs_W d mid ((tpc : Int) + fs_sw df lo hi offs a).toNat L1 st1 M1 Q) : fs_W d mid pc L st M Q := by
  obtain ⟨n, v, M', h1, h2⟩ := k
  refine ⟨n + 1, v, M', ?_, h2⟩
  rw [fs_run, hb]
  dsimp only
  rw [he]
  dsimp only
  rw [if_pos ho]
  exact h1
theorem fs_r_ret (hb : fs_bl mid pc = some (is, tpc, .return_, tl, x1, x2, x3)) (he : fs_ex is L st M = (ob, L1, [], M1)) (ho : fs_all ob) (k : Q none M1) : fs_W d mid pc L st M Q := by
  refine ⟨1, none, M1, ?_, k⟩
  rw [fs_run, hb]
  dsimp only
  rw [he]
  dsimp only
  rw [if_pos ho]
theorem fs_r_iret {a : Int} (hb : fs_bl mid pc = some (is, tpc, .ireturn, tl, x1, x2, x3)) (he : fs_ex is L st M = (ob, L1, [.inl a], M1)) (ho : fs_all ob) (ha : x1 = 0 ∨ a = 0 ∨ a = 1) (k : Q (some (.inl a)) M1) : fs_W d mid pc L st M Q := by
  refine ⟨1, _, M1, ?_, k⟩
  rw [fs_run, hb]
  dsimp only
  rw [he]
  dsimp only
  rw [if_pos ho, if_pos ha]
theorem fs_r_lret {a : Int64} (hb : fs_bl mid pc = some (is, tpc, .lreturn, tl, x1, x2, x3)) (he : fs_ex is L st M = (ob, L1, [.inr (.long a)], M1)) (ho : fs_all ob) (k : Q (some (.inr (.long a))) M1) : fs_W d mid pc L st M Q := by
  refine ⟨1, _, M1, ?_, k⟩
  rw [fs_run, hb]
  dsimp only
  rw [he]
  dsimp only
  rw [if_pos ho]
theorem fs_r_fret {a : UInt32} (hb : fs_bl mid pc = some (is, tpc, .freturn, tl, x1, x2, x3)) (he : fs_ex is L st M = (ob, L1, [.inr (.float a)], M1)) (ho : fs_all ob) (k : Q (some (.inr (.float a))) M1) : fs_W d mid pc L st M Q := by
  refine ⟨1, _, M1, ?_, k⟩
  rw [fs_run, hb]
  dsimp only
  rw [he]
  dsimp only
  rw [if_pos ho]
theorem fs_r_dret {a : UInt64} (hb : fs_bl mid pc = some (is, tpc, .dreturn, tl, x1, x2, x3)) (he : fs_ex is L st M = (ob, L1, [.inr (.double a)], M1)) (ho : fs_all ob) (k : Q (some (.inr (.double a))) M1) : fs_W d mid pc L st M Q := by
  refine ⟨1, _, M1, ?_, k⟩
  rw [fs_run, hb]
  dsimp only
  rw [he]
  dsimp only
  rw [if_pos ho]
theorem fs_r_nat {ti : Instr} {sta : Bool} {as rest : List fs_V} {v : fs_V} {idx : Nat} (hi : ti = if sta then .invokestatic idx else .invokevirtual idx) (hb : fs_bl mid pc = some (is, tpc, ti, tl, x1, x2, x3)) (he : fs_ex is L st M = (ob, L1, st1, M1)) (ho : fs_all ob)
    (hst : st1 = as.reverse ++ rest) (hl : as.length = x2.toNat) (hc : fs_cats rest ≤ 8) (hr : fs_rcv sta x1 as) (hn : 900 ≤ x1) (hv : fs_nat x1 as = some v) (k : fs_W (d + 1) mid (tpc + 3) L1 (v :: rest) M1 Q) (hd : fs_nd x1 ≤ d := by (unfold fs_nd; (repeat' split) <;> omega)) : fs_W (d + 1) mid pc L st M Q := by
  replace hv : fs_natd d x1 as = some v := by
    unfold fs_natd
    rw [if_pos hd]
    exact hv
  obtain ⟨n, w, M', h1, h2⟩ := k
  refine ⟨n + 1, w, M', ?_, h2⟩
  have e1 : (st1.take x2.toNat).reverse = as := by rw [hst, ← hl, List.take_left' (by rw [List.length_reverse]), List.reverse_reverse]
  have e2 : st1.drop x2.toNat = rest := by rw [hst, ← hl, List.drop_left' (by rw [List.length_reverse])]
  have e3 : x2.toNat ≤ st1.length := by rw [hst, List.length_append, List.length_reverse]; omega
  subst hi
  cases sta
  · replace hb : fs_bl mid pc = some (is, tpc, .invokevirtual idx, tl, x1, x2, x3) := hb
    rw [fs_run, hb]
    dsimp only
    rw [he]
    dsimp only
    rw [if_pos ho, e1, e2]
    rw [if_pos ⟨e3, hc, hr⟩, if_pos hn, hv]
    exact h1
  · replace hb : fs_bl mid pc = some (is, tpc, .invokestatic idx, tl, x1, x2, x3) := hb
    rw [fs_run, hb]
    dsimp only
    rw [he]
    dsimp only
    rw [if_pos ho, e1, e2]
    rw [if_pos ⟨e3, hc, hr⟩, if_pos hn, hv]
    exact h1
theorem fs_r_call {ti : Instr} {sta : Bool} {as rest : List fs_V} {idx : Nat} (hi : ti = if sta then .invokestatic idx else .invokevirtual idx) (hb : fs_bl mid pc = some (is, tpc, ti, tl, x1, x2, x3)) (he : fs_ex is L st M = (ob, L1, st1, M1)) (ho : fs_all ob)
    (hst : st1 = as.reverse ++ rest) (hl : as.length = x2.toNat) (hc : fs_cats rest ≤ 8) (hr : fs_rcv sta x1 as) (hn : ¬ 900 ≤ x1) (k : fs_W d x1 0 (fs_ent (fs_me x1).2.2.1 as) [] M1 (fun v M2 => fs_W (d + 1) mid (tpc + 3) L1 (v.toList ++ rest) M2 Q)) : fs_W (d + 1) mid pc L st M Q := by
  obtain ⟨n1, v, M2, h1, n2, w, M', h2, h3⟩ := k
  refine ⟨n1 + n2 + 1, w, M', ?_, h3⟩
  have e1 : (st1.take x2.toNat).reverse = as := by rw [hst, ← hl, List.take_left' (by rw [List.length_reverse]), List.reverse_reverse]
  have e2 : st1.drop x2.toNat = rest := by rw [hst, ← hl, List.drop_left' (by rw [List.length_reverse])]
  have e3 : x2.toNat ≤ st1.length := by rw [hst, List.length_append, List.length_reverse]; omega
  subst hi
  cases sta
  · replace hb : fs_bl mid pc = some (is, tpc, .invokevirtual idx, tl, x1, x2, x3) := hb
    rw [fs_run, hb]
    dsimp only
    rw [he]
    dsimp only
    rw [if_pos ho, e1, e2]
    rw [if_pos ⟨e3, hc, hr⟩, if_neg hn, fs_mono (by omega) h1]
    exact fs_mono (by omega) h2
  · replace hb : fs_bl mid pc = some (is, tpc, .invokestatic idx, tl, x1, x2, x3) := hb
    rw [fs_run, hb]
    dsimp only
    rw [he]
    dsimp only
    rw [if_pos ho, e1, e2]
    rw [if_pos ⟨e3, hc, hr⟩, if_neg hn, fs_mono (by omega) h1]
    exact fs_mono (by omega) h2
end FsRules
