/-- the words that go from a method to its callees -/
def fs_good : List Jvm.Cond := lw_tbl.filter goodWord
def fs_ok (w : Jvm.Cond) (p : Nat) : Bool := decide (lw_tbl[p]? = some w) && goodWord w
theorem fs_ok_mem {w : Jvm.Cond} {p : Nat} (h : fs_ok w p = true) : w ∈ fs_good := by
  simp only [fs_ok, Bool.and_eq_true, decide_eq_true_eq] at h
  exact List.mem_filter.mpr ⟨List.mem_of_getElem? h.1, h.2⟩
def fs_strs : List (String × Nat × Nat) := [("FireSale$Tape", 64, 0), ("FireSale$Tape", 73, 1), ("FireSale$Tape", 78, 2), ("FireSale$Tape", 83, 3), ("FireSale$Tape", 89, 4), ("FireSale$Speller", 24, 0), ("FireSale$Speller", 63, 1), ("FireSale$Speller", 75, 2), ("FireSale$Speller", 55, 3), ("FireSale$Speller", 61, 4)]
def fs_txt : List String := ["asset", "house", "loan", "cap", "shock"]
def fs_rn (c : Nat) : String := (vwCl.getD c (RX0, TX0, 8)).1
def fs_T (c : Nat) : u_T := (vwCl.getD c (RX0, TX0, 8)).2.1
def fs_n (c : Nat) : Nat := (vwCl.getD c (RX0, TX0, 8)).2.2
def fs_len : Instr → Nat
  | .bipush _ => 2
  | .sipush _ => 3
  | .ldc _ => 2
  | .ldc_w _ => 3
  | .ldc2_w _ => 3
  | .iload _ => 2
  | .aload _ => 2
  | .lload _ => 2
  | .fload _ => 2
  | .dload _ => 2
  | .istore _ => 2
  | .fstore _ => 2
  | .lstore _ => 2
  | .dstore _ => 2
  | .iinc _ _ => 3
  | .getfield _ => 3
  | .putfield _ => 3
  | _ => 1
def fs_rgb (n : Int) : Bool := decide (-2147483648 ≤ n ∧ n ≤ 2147483647)
def fs_ckx (own : String) (q : fs_I) : Bool := match q.1 with
  | .iconst n => decide (-1 ≤ n ∧ n ≤ 5)
  | .bipush n => decide (-128 ≤ n ∧ n ≤ 127)
  | .sipush n => decide (-32768 ≤ n ∧ n ≤ 32767)
  | .ldc idx => (match q.2.2.1 with
    | 0 => fs_ok (.constant own idx (Int32.ofInt q.2.2.2.1)) q.2.2.2.2 && fs_rgb q.2.2.2.1
    | 1 => fs_ok (.constantFloat own idx (UInt32.ofNat q.2.2.2.1.toNat)) q.2.2.2.2
    | _ => decide (1000 ≤ q.2.2.2.1 ∧ q.2.2.2.1 < 1005) && decide (fs_strs[q.2.2.2.2]? = some (own, idx, q.2.2.2.1.toNat - 1000)))
  | .ldc_w idx => (match q.2.2.1 with
    | 0 => fs_ok (.constant own idx (Int32.ofInt q.2.2.2.1)) q.2.2.2.2 && fs_rgb q.2.2.2.1
    | 1 => fs_ok (.constantFloat own idx (UInt32.ofNat q.2.2.2.1.toNat)) q.2.2.2.2
    | _ => false)
  | .ldc2_w idx => (match q.2.2.1 with
    | 0 => fs_ok (.constantLong own idx (Int64.ofInt q.2.2.2.1)) q.2.2.2.2
    | _ => fs_ok (.constantDouble own idx (UInt64.ofNat q.2.2.2.1.toNat)) q.2.2.2.2)
  | .getfield idx => decide ((fs_T q.2.2.1 q.2.2.2.1.toNat).1 = fs_rn q.2.2.1) && (decide (q.2.2.1 < 7 ∧ 0 ≤ q.2.2.2.1 ∧ q.2.2.2.1.toNat < fs_n q.2.2.1) && fs_ok (.fieldLink own idx (fs_rn q.2.2.1) (fs_T q.2.2.1 q.2.2.2.1.toNat).2.1 (fs_T q.2.2.1 q.2.2.2.1.toNat).2.2.1) q.2.2.2.2)
  | .putfield idx => decide (q.2.2.1 < 7 ∧ 0 ≤ q.2.2.2.1 ∧ q.2.2.2.1.toNat < fs_n q.2.2.1) && (fs_ok (.fieldLink own idx (fs_rn q.2.2.1) (fs_T q.2.2.1 q.2.2.2.1.toNat).2.1 (fs_T q.2.2.1 q.2.2.2.1.toNat).2.2.1) q.2.2.2.2 &&
      decide ((fs_T q.2.2.1 q.2.2.2.1.toNat).2.2.2 = false ∧ (fs_T q.2.2.1 q.2.2.2.1.toNat).2.2.1 = "I" ∧ fs_of q.2.2.1 q.2.2.2.1.toNat = none ∧ (fs_T q.2.2.1 q.2.2.2.1.toNat).1 = fs_rn q.2.2.1))
  | .fconst n => decide (n.val < 2)
  | .iaload => decide (q.2.2.1 = 0 ∨ own = "FireSaleLaw")
  | .arraylength => decide (q.2.2.1 = 0 ∨ own = "FireSaleLaw")
  | _ => true
def fs_cki (own : String) (cc : ByteArray) (pc : Nat) (q : fs_I) : Bool :=
  decide (decode cc pc = .ok (q.1, q.2.1)) && (decide (q.2.1 = fs_len q.1) && fs_ckx own q)
def fs_cks (own : String) (cc : ByteArray) : Nat → List fs_I → Nat → Bool
  | pc, [], e => decide (pc = e)
  | pc, q :: r, e => fs_cki own cc pc q && fs_cks own cc (pc + q.2.1) r e
def fs_tg (pc : Nat) (off : Int) (t : Nat) : Bool := decide ((pc : Int) + off = (t : Int))
/-- a call: what links it; a JDK method that is told by a law of its own has a number from 900 on -/
def fs_natn : Nat → MethodName
  | 900 => ⟨"java/lang/String", "length", "()I"⟩
  | 901 => ⟨"java/lang/String", "charAt", "(I)C"⟩
  | 902 => ⟨"java/lang/Float", "floatToIntBits", "(F)I"⟩
  | 903 => ⟨"java/lang/Double", "doubleToLongBits", "(D)J"⟩
  | 904 => ⟨"java/lang/Math", "max", "(II)I"⟩
  | _ => ⟨"java/lang/Math", "min", "(II)I"⟩
def fs_ckc (own : String) (idx : Nat) (t : fs_I) (sta : Bool) : Bool :=
  if 900 ≤ t.2.2.1 then fs_ok (.methodLink own idx (fs_natn t.2.2.1)) t.2.2.2.2 && decide (t.2.2.1 < 906) && (decide (t.2.2.1 < 902) == !sta)
  else decide (t.2.2.1 < fs_K) && (decide ((fs_me t.2.2.1).2.2.2.2.1 = sta) && (decide (t.2.2.2.1 = ((fs_me t.2.2.1).2.2.2.2.2.2.2.2.2 + (if sta then 0 else 1) : Nat)) &&
    (fs_ok (.methodLink own idx (fs_me t.2.2.1).1) t.2.2.2.2 || (sta && decide (fs_nw[t.2.2.2.2]? = some (own, idx, (fs_me t.2.2.1).1))))))
def fs_ckt (own : String) (cc : ByteArray) (rt : Option FieldType) (pc : Nat) (t : fs_I) : Bool :=
  match t.1 with
  | .nop => decide (t.2.1 = 0)
  | .goto off => decide (decode cc pc = .ok (t.1, 3)) && fs_tg pc off t.2.2.1
  | .ifCond _ off => decide (decode cc pc = .ok (t.1, 3)) && fs_tg pc off t.2.2.1
  | .if_icmp _ off => decide (decode cc pc = .ok (t.1, 3)) && fs_tg pc off t.2.2.1
  | .tableswitch d lo hi offs => decide (decode cc pc = .ok (t.1, t.2.1)) && (decide (0 ≤ (pc : Int) + d) && (decide (hi - lo + 1 = (offs.size : Int)) && offs.toList.all (fun o => decide (0 ≤ (pc : Int) + o))))
  | .return_ => decide (decode cc pc = .ok (t.1, 1)) && decide (rt = none)
  | .ireturn => decide (decode cc pc = .ok (t.1, 1)) && decide (rt = if t.2.2.1 = 0 then some .int else some .boolean)
  | .lreturn => decide (decode cc pc = .ok (t.1, 1)) && decide (rt = some .long)
  | .freturn => decide (decode cc pc = .ok (t.1, 1)) && decide (rt = some .float)
  | .dreturn => decide (decode cc pc = .ok (t.1, 1)) && decide (rt = some .double)
  | .invokevirtual idx => decide (decode cc pc = .ok (t.1, 3)) && fs_ckc own idx t false
  | .invokestatic idx => decide (decode cc pc = .ok (t.1, 3)) && fs_ckc own idx t true
  | _ => false
def fs_ckb (mid : Nat) : Bool := (fs_tab mid).all (fun b => fs_cks (fs_me mid).1.cls (fs_me mid).2.1 b.1 b.2.1 b.2.2.1 && fs_ckt (fs_me mid).1.cls (fs_me mid).2.1 (fs_me mid).2.2.2.1 b.2.2.1 b.2.2.2)
def fs_ckm (mid : Nat) : Bool :=
  fs_ok (.code (fs_me mid).1 (fs_me mid).2.1 (fs_me mid).2.2.1 (fs_me mid).2.2.2.1) (fs_me mid).2.2.2.2.2.1 &&
  (fs_ok (if (fs_me mid).2.2.2.2.1 then .static (fs_me mid).1 else .instanceMethod (fs_me mid).1) (fs_me mid).2.2.2.2.2.2.1 &&
  (((fs_me mid).2.2.2.2.1 || fs_ok (.selects (fs_me mid).1.cls (fs_me mid).1 (fs_me mid).1) (fs_me mid).2.2.2.2.2.2.2.1) &&
  (fs_ok (.initialized (fs_me mid).1.cls) (fs_me mid).2.2.2.2.2.2.2.2.1 &&
  (Jvm.plainName (fs_me mid).1.cls && (decide ((fs_me mid).1.cls ≠ "java/lang/invoke/MethodHandle" ∧ (fs_me mid).1.cls ≠ "java/lang/invoke/VarHandle") &&
  (decide ((parseMethodDescriptor (fs_me mid).1.desc).map (fun d => d.parameters.length) = some (fs_me mid).2.2.2.2.2.2.2.2.2) &&
  (decide ((fs_me mid).2.2.1 ≤ 20 ∧ (fs_me mid).1.cls ≠ "FireSaleLaw") && fs_ckb mid)))))))
