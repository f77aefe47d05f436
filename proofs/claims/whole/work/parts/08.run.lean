/-! The small machine's run, and that it tells the truth of the real one -/
def fs_mcl : List Nat := [0, 0, 0, 0, 0, 0, 0, 0, 0, 0, 0, 0, 0, 0, 0, 0, 0, 0, 0, 0, 0, 0, 0, 0, 0, 0, 0, 0, 0, 0, 0, 0, 1, 1, 1, 1, 1, 1, 1, 1, 1, 1, 1, 1, 1, 1, 1, 1, 1, 2, 2, 2, 2, 2, 2, 2, 3, 3, 3, 3, 4, 4, 4, 4, 4, 4, 4, 4, 4, 4, 4, 4, 4, 4, 4, 5, 5, 5, 5, 5, 5, 5, 5, 5, 5, 5, 5, 5, 5, 5, 5, 5, 5, 5, 5, 5, 5, 5, 5, 5, 5, 5, 5, 5, 5, 5, 5, 5, 5, 5, 5, 5, 5, 5, 5, 5, 5, 5, 5, 5, 5, 5, 5, 5, 5, 5, 5, 5, 5, 5, 5, 5, 5, 5, 5, 5, 5, 5, 5, 5, 5, 5, 5, 5, 5, 5, 5, 5, 5, 5, 5, 5, 5, 5, 5, 5, 5, 5, 5, 5, 5, 5, 5, 6, 6, 6, 6, 6, 6, 6, 6, 6, 6, 6, 6, 6, 6, 6, 6, 6, 6, 6, 6, 6, 6, 6, 6, 6, 6, 6, 6, 6, 6, 6, 6, 6, 6, 6, 6, 6, 6, 6, 6, 6, 6, 6, 6, 6, 6, 6, 6, 6, 6, 6, 6, 6, 6, 6, 6, 6, 6, 6, 6, 6, 6, 6, 6, 6, 6, 6, 6, 6, 6, 6, 6, 6, 6, 6, 6, 6, 6, 6, 6, 6, 6, 6, 6, 6, 6, 6, 6, 6, 6, 6, 6, 6, 6, 6, 6, 6, 6, 6, 6, 6, 6, 6, 6, 6, 6, 6, 6, 6, 6, 6, 6, 6, 6, 6, 6, 6, 6, 6, 6]
def fs_mc (mid : Nat) : Nat := fs_mcl.getD mid 0
def fs_bytes : List (List Int32) := [[97, 115, 115, 101, 116], [104, 111, 117, 115, 101], [108, 111, 97, 110], [99, 97, 112], [115, 104, 111, 99, 107]]
def fs_slen : List Nat := [5, 5, 4, 3, 5]
def fs_nat (n : Nat) (as : List fs_V) : Option fs_V := match n with
  | 900 => match as with
    | [.inr (.ref r)] => if 1000 ≤ r ∧ r < 1005 then some (.inl ((fs_slen.getD (r - 1000) 0 : Nat) : Int)) else none
    | _ => none
  | 901 => match as with
    | [.inr (.ref r), .inl i] => if (1000 ≤ r ∧ r < 1005) ∧ 0 ≤ i ∧ i < ((fs_slen.getD (r - 1000) 0 : Nat) : Int) then some (.inl ((fs_bytes.getD (r - 1000) []).getD i.toNat 0).toInt) else none
    | _ => none
  | 902 => match as with
    | [.inr (.float x)] => if x &&& 0x7fffffff ≤ 0x7f800000 then some (.inl x.toInt32.toInt) else none
    | _ => none
  | 903 => match as with
    | [.inr (.double x)] => if x &&& 0x7fffffffffffffff ≤ 0x7ff0000000000000 then some (.inr (.long x.toInt64)) else none
    | _ => none
  | 904 => match as with
    | [.inl a, .inl b] => some (.inl (max a b))
    | _ => none
  | 905 => match as with
    | [.inl a, .inl b] => some (.inl (min a b))
    | _ => none
  | _ => none
/-- how many frames a JDK method needs below its own -/
def fs_nd (x : Nat) : Nat := if x = 901 then 3 else if x = 900 ∨ x = 902 ∨ x = 903 then 1 else 0
def fs_natd (d x : Nat) (as : List fs_V) : Option fs_V := if fs_nd x ≤ d then fs_nat x as else none
theorem fs_natd_s {d x : Nat} {as : List fs_V} {v : fs_V} (h : fs_natd d x as = some v) : fs_nd x ≤ d ∧ fs_nat x as = some v := by
  unfold fs_natd at h
  by_cases z : fs_nd x ≤ d
  · rw [if_pos z] at h
    exact ⟨z, h⟩
  · rw [if_neg z] at h
    cases h
def fs_sw (df lo hi : Int) (offs : Array Int) (a : Int) : Int := if a < lo ∨ hi < a then df else offs.toList.getD (a - lo).toNat df
/-- a call's receiver -/
def fs_rcv (sta : Bool) (k : Nat) (as : List fs_V) : Prop := (900 ≤ k ∨ (fs_spr as).length ≤ (fs_me k).2.2.1) ∧ match sta with
  | true => True
  | false => match as with
    | .inr (.ref r) :: _ => 900 ≤ k ∨ (r < fs_N ∧ fs_kd r = fs_mc k)
    | _ => False
noncomputable def fs_run : Nat → Nat → Nat → Nat → fs_L → List fs_V → fs_M → Option (Option fs_V × fs_M)
  | 0, _, _, _, _, _, _ => none
  | n + 1, d, mid, pc, ls, st, M => match fs_bl mid pc with
    | none => none
    | some (is, tpc, t) => match fs_ex is ls st M with
      | (o, ls1, st1, M1) => @ite _ (fs_all o) (Classical.propDecidable _) (match t.1 with
        | .nop => fs_run n d mid tpc ls1 st1 M1
        | .goto _ => fs_run n d mid t.2.2.1 ls1 st1 M1
        | .ifCond c _ => match st1 with
          | .inl a :: r => @ite _ (fs_cd c a 0) (Classical.propDecidable _) (fs_run n d mid t.2.2.1 ls1 r M1) (fs_run n d mid (tpc + 3) ls1 r M1)
          | _ => none
        | .if_icmp c _ => match st1 with
          | .inl y :: .inl a :: r => @ite _ (fs_cd c a y) (Classical.propDecidable _) (fs_run n d mid t.2.2.1 ls1 r M1) (fs_run n d mid (tpc + 3) ls1 r M1)
          | _ => none
        | .tableswitch df lo hi offs => match st1 with
          | .inl a :: r => fs_run n d mid ((tpc : Int) + fs_sw df lo hi offs a).toNat ls1 r M1
          | _ => none
        | .return_ => match st1 with
          | [] => some (none, M1)
          | _ => none
        | .ireturn => match st1 with
          | [.inl a] => @ite _ (t.2.2.1 = 0 ∨ a = 0 ∨ a = 1) (Classical.propDecidable _) (some (some (.inl a), M1)) none
          | _ => none
        | .lreturn => match st1 with
          | [.inr (.long x)] => some (some (.inr (.long x)), M1)
          | _ => none
        | .freturn => match st1 with
          | [.inr (.float x)] => some (some (.inr (.float x)), M1)
          | _ => none
        | .dreturn => match st1 with
          | [.inr (.double x)] => some (some (.inr (.double x)), M1)
          | _ => none
        | .invokevirtual _ => match d with
          | 0 => none
          | d' + 1 => @ite _ (t.2.2.2.1.toNat ≤ st1.length ∧ fs_cats (st1.drop t.2.2.2.1.toNat) ≤ 8 ∧ fs_rcv false t.2.2.1 (st1.take t.2.2.2.1.toNat).reverse) (Classical.propDecidable _)
            (match (if 900 ≤ t.2.2.1 then (fs_natd d' t.2.2.1 (st1.take t.2.2.2.1.toNat).reverse).map (fun v => (some v, M1)) else fs_run n d' t.2.2.1 0 (fs_ent (fs_me t.2.2.1).2.2.1 (st1.take t.2.2.2.1.toNat).reverse) [] M1) with
            | some (v, M2) => fs_run n (d' + 1) mid (tpc + 3) ls1 (v.toList ++ st1.drop t.2.2.2.1.toNat) M2
            | none => none) none
        | .invokestatic _ => match d with
          | 0 => none
          | d' + 1 => @ite _ (t.2.2.2.1.toNat ≤ st1.length ∧ fs_cats (st1.drop t.2.2.2.1.toNat) ≤ 8 ∧ fs_rcv true t.2.2.1 (st1.take t.2.2.2.1.toNat).reverse) (Classical.propDecidable _)
            (match (if 900 ≤ t.2.2.1 then (fs_natd d' t.2.2.1 (st1.take t.2.2.2.1.toNat).reverse).map (fun v => (some v, M1)) else fs_run n d' t.2.2.1 0 (fs_ent (fs_me t.2.2.1).2.2.1 (st1.take t.2.2.2.1.toNat).reverse) [] M1) with
            | some (v, M2) => fs_run n (d' + 1) mid (tpc + 3) ls1 (v.toList ++ st1.drop t.2.2.2.1.toNat) M2
            | none => none) none
        | _ => none) none
theorem fs_all_iff : ∀ (l : List Prop), fs_all l ↔ ∀ p ∈ l, p
  | [] => by simp [fs_all]
  | [p] => ⟨fun h q hq => by rw [List.mem_singleton] at hq; rw [hq]; exact h, fun h => h p List.mem_cons_self⟩
  | p :: q :: r => by
    have ih := fs_all_iff (q :: r)
    refine ⟨fun h x hx => ?_, fun h => ⟨h p List.mem_cons_self, ih.mpr (fun x hx => h x (List.mem_cons_of_mem _ hx))⟩⟩
    rcases List.mem_cons.mp hx with e | hx
    · rw [e]
      exact h.1
    · exact ih.mp h.2 x hx
theorem fs_all_app {a b : List Prop} (h : fs_all (a ++ b)) : fs_all a ∧ fs_all b := by
  rw [fs_all_iff] at h
  rw [fs_all_iff, fs_all_iff]
  exact ⟨fun p hp => h p (List.mem_append_left _ hp), fun p hp => h p (List.mem_append_right _ hp)⟩
