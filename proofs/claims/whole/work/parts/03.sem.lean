/-! A small machine over the bytecode: whole numbers instead of 32-bit cells, a memory of regions (region r: the cell o + r) whose references never change, straight stretches run at once -/
abbrev fs_V : Type := Int ⊕ Value
abbrev fs_M : Type := Nat → Int → Int
abbrev fs_L : Type := List (Option fs_V)
/-- an instruction, its length, and what it stands for: two numbers, and a place among the tables' words -/
abbrev fs_I : Type := Instr × Nat × Nat × Int × Nat
abbrev fs_R : Type := List Prop × fs_L × List fs_V × fs_M
def fs_rg (n : Int) : Prop := -2147483648 ≤ n ∧ n ≤ 2147483647
def fs_all : List Prop → Prop
  | [] => True
  | [p] => p
  | p :: q :: r => p ∧ fs_all (q :: r)
def fs_up (M : fs_M) (r : Nat) (i v : Int) : fs_M := fun r' i' => if r' = r ∧ i' = i then v else M r' i'
def fs_get (ls : fs_L) (j : Nat) : Option fs_V := match ls[j]? with
  | some (some v) => some v
  | _ => none
def fs_kil : Option fs_V → Option fs_V
  | some (.inr (.long _)) => none
  | some (.inr (.double _)) => none
  | x => x
def fs_sto : fs_L → Nat → fs_V → fs_L
  | [], _, _ => []
  | _ :: r, 0, v => some v :: r
  | x :: r, 1, v => fs_kil x :: fs_sto r 0 v
  | x :: r, j + 2, v => x :: fs_sto r (j + 1) v
def fs_st2 : fs_L → Nat → fs_V → fs_L
  | [], _, _ => []
  | [_], _, _ => []
  | _ :: _ :: r, 0, v => some v :: none :: r
  | x :: y :: r, 1, v => fs_kil x :: fs_st2 (y :: r) 0 v
  | x :: y :: r, j + 2, v => x :: fs_st2 (y :: r) (j + 1) v
def fs_i32 (f : Int32 → Int32 → Int32) (a b : Int) : Int := (f (Int32.ofInt a) (Int32.ofInt b)).toInt
def fs_and (a b : Int) : Int := fs_i32 (fun x y => x &&& y) a b
def fs_or (a b : Int) : Int := fs_i32 (fun x y => x ||| y) a b
def fs_xor (a b : Int) : Int := fs_i32 (fun x y => x ^^^ y) a b
def fs_shl (a b : Int) : Int := fs_i32 (fun x y => x <<< (y &&& 31)) a b
def fs_shr (a b : Int) : Int := fs_i32 (fun x y => x >>> (y &&& 31)) a b
def fs_ushr (a b : Int) : Int := fs_i32 (fun x y => (x.toUInt32 >>> (y.toUInt32 &&& Int32.toUInt32 31)).toInt32) a b
/-- regions: of what kind (0 to 6 an object of that class, 100 a row of ints, 101 the row of Books), how long -/
def fs_kd (r : Nat) : Nat :=
  if r < 40 then ([5, 4, 100, 2, 100, 0, 100, 100, 100, 100, 100, 100, 0, 100, 100, 100, 100, 100, 100, 101, 1, 100, 100, 100, 100, 100, 100, 100, 100, 100, 100, 100, 3, 100, 3, 100, 100, 100, 100, 100] : List Nat).getD r 0
  else if r < 124 then (if (r - 40) % 7 = 0 then 0 else 100)
  else if r = 124 then 6 else 100
def fs_ln (r : Nat) : Int :=
  if r < 40 then ([14, 7, 800, 2, 800, 8, 8, 30, 24, 36, 3, 36, 8, 8, 30, 24, 36, 3, 36, 12, 14, 4, 4, 4, 4, 4, 4, 6, 6, 30, 24, 36, 2, 4, 2, 4, 6, 4, 6, 6] : List Int).getD r 0
  else if r < 124 then ([8, 8, 30, 24, 36, 3, 36] : List Int).getD ((r - 40) % 7) 0
  else ([35, 139, 139, 1668, 800, 4, 4, 6, 4, 4, 24, 6, 6, 6, 1200] : List Int).getD (r - 124) 0
def fs_N : Nat := 139
/-- a field that holds a reference: how far behind its object the cell is that it points to -/
def fs_of (c : Nat) (k : Nat) : Option Nat := match c with
  | 0 => if 2 ≤ k then some (k - 1) else none
  | 1 => if 3 ≤ k then some (k - 2) else none
  | 2 => if k = 0 then some 1 else none
  | 3 => if k = 0 then some 1 else none
  | 4 => if k = 0 then some 1 else none
  | 5 => ([some 1, some 3, some 5, some 12, some 19, none, none, some 20, some 32, some 34, some 36, some 37, some 38, some 39] : List (Option Nat)).getD k none
  | _ => ([none, some 1, some 2, some 3, none, some 4, none, none, none, none, none, none, none, some 5, some 6, none, none, none, some 7, none, none, none, none, none, none, none, some 8, some 9, some 10, some 11, none, some 12, some 13, some 14, none] : List (Option Nat)).getD k none
def fs_fld (c : Nat) (r : Nat) (k : Int) (M : fs_M) : fs_V := match fs_of c k.toNat with
  | some d => .inr (.ref (r + d))
  | none => .inl (M r k)
def fs_bad (ls : fs_L) (st : List fs_V) (M : fs_M) : fs_R := ([False], ls, st, M)
def fs_lod (p : fs_V → Bool) (j : Nat) (ls : fs_L) (st : List fs_V) (M : fs_M) : fs_R := match fs_get ls j with
  | some v => match p v with
    | true => ([], ls, v :: st, M)
    | false => fs_bad ls st M
  | none => fs_bad ls st M
def fs_isi : fs_V → Bool
  | .inl _ => true
  | _ => false
def fs_isa : fs_V → Bool
  | .inr (.ref _) => true
  | _ => false
def fs_isl : fs_V → Bool
  | .inr (.long _) => true
  | _ => false
def fs_isf : fs_V → Bool
  | .inr (.float _) => true
  | _ => false
def fs_isd : fs_V → Bool
  | .inr (.double _) => true
  | _ => false
def fs_s1 (p : fs_V → Bool) (j : Nat) (ls : fs_L) (st : List fs_V) (M : fs_M) : fs_R := match st with
  | v :: r => match p v with
    | true => ([j < ls.length], fs_sto ls j v, r, M)
    | false => fs_bad ls st M
  | _ => fs_bad ls st M
def fs_s2 (p : fs_V → Bool) (j : Nat) (ls : fs_L) (st : List fs_V) (M : fs_M) : fs_R := match st with
  | v :: r => match p v with
    | true => ([j + 1 < ls.length], fs_st2 ls j v, r, M)
    | false => fs_bad ls st M
  | _ => fs_bad ls st M
def fs_ii (f : Int → Int → List Prop × Int) (ls : fs_L) (st : List fs_V) (M : fs_M) : fs_R := match st with
  | .inl b :: .inl a :: r => ((f a b).1, ls, .inl (f a b).2 :: r, M)
  | _ => fs_bad ls st M
def fs_ll (f : Int64 → Int64 → List Prop × fs_V) (ls : fs_L) (st : List fs_V) (M : fs_M) : fs_R := match st with
  | .inr (.long b) :: .inr (.long a) :: r => ((f a b).1, ls, (f a b).2 :: r, M)
  | _ => fs_bad ls st M
def fs_ff (f : UInt32 → UInt32 → List Prop × fs_V) (ls : fs_L) (st : List fs_V) (M : fs_M) : fs_R := match st with
  | .inr (.float b) :: .inr (.float a) :: r => ((f a b).1, ls, (f a b).2 :: r, M)
  | _ => fs_bad ls st M
def fs_dd (f : UInt64 → UInt64 → List Prop × fs_V) (ls : fs_L) (st : List fs_V) (M : fs_M) : fs_R := match st with
  | .inr (.double b) :: .inr (.double a) :: r => ((f a b).1, ls, (f a b).2 :: r, M)
  | _ => fs_bad ls st M
/-- one straight instruction: what must hold for it, and what is then -/
def fs_st (q : fs_I) (ls : fs_L) (st : List fs_V) (M : fs_M) : fs_R := match q.1 with
  | .iconst n => ([], ls, .inl n :: st, M)
  | .bipush n => ([], ls, .inl n :: st, M)
  | .sipush n => ([], ls, .inl n :: st, M)
  | .ldc _ => match q.2.2.1 with
    | 0 => ([], ls, .inl q.2.2.2.1 :: st, M)
    | 1 => ([], ls, .inr (.float (UInt32.ofNat q.2.2.2.1.toNat)) :: st, M)
    | _ => ([], ls, .inr (.ref q.2.2.2.1.toNat) :: st, M)
  | .ldc_w _ => match q.2.2.1 with
    | 0 => ([], ls, .inl q.2.2.2.1 :: st, M)
    | 1 => ([], ls, .inr (.float (UInt32.ofNat q.2.2.2.1.toNat)) :: st, M)
    | _ => ([], ls, .inr (.ref q.2.2.2.1.toNat) :: st, M)
  | .ldc2_w _ => match q.2.2.1 with
    | 0 => ([], ls, .inr (.long (Int64.ofInt q.2.2.2.1)) :: st, M)
    | _ => ([], ls, .inr (.double (UInt64.ofNat q.2.2.2.1.toNat)) :: st, M)
  | .iload_n k => fs_lod fs_isi k.val ls st M
  | .iload k => fs_lod fs_isi k ls st M
  | .aload_n k => fs_lod fs_isa k.val ls st M
  | .aload k => fs_lod fs_isa k ls st M
  | .lload_n k => fs_lod fs_isl k.val ls st M
  | .lload k => fs_lod fs_isl k ls st M
  | .fload_n k => fs_lod fs_isf k.val ls st M
  | .fload k => fs_lod fs_isf k ls st M
  | .dload_n k => fs_lod fs_isd k.val ls st M
  | .dload k => fs_lod fs_isd k ls st M
  | .istore_n k => fs_s1 fs_isi k.val ls st M
  | .istore k => fs_s1 fs_isi k ls st M
  | .astore_n k => fs_s1 fs_isa k.val ls st M
  | .fstore_n k => fs_s1 fs_isf k.val ls st M
  | .fstore k => fs_s1 fs_isf k ls st M
  | .lstore_n k => fs_s2 fs_isl k.val ls st M
  | .lstore k => fs_s2 fs_isl k ls st M
  | .dstore_n k => fs_s2 fs_isd k.val ls st M
  | .dstore k => fs_s2 fs_isd k ls st M
  | .iinc j n => match fs_get ls j with
    | some (.inl a) => ([fs_rg (a + n)], fs_sto ls j (.inl (a + n)), st, M)
    | _ => fs_bad ls st M
  | .iadd => fs_ii (fun a b => ([fs_rg (a + b)], a + b)) ls st M
  | .isub => fs_ii (fun a b => ([fs_rg (a - b)], a - b)) ls st M
  | .imul => fs_ii (fun a b => ([fs_rg (a * b)], a * b)) ls st M
  | .idiv => fs_ii (fun a b => ([0 ≤ a, 0 < b], a / b)) ls st M
  | .irem => fs_ii (fun a b => ([0 ≤ a, 0 < b], a % b)) ls st M
  | .iand => fs_ii (fun a b => ([], fs_and a b)) ls st M
  | .ior => fs_ii (fun a b => ([], fs_or a b)) ls st M
  | .ixor => fs_ii (fun a b => ([], fs_xor a b)) ls st M
  | .ishl => fs_ii (fun a b => ([], fs_shl a b)) ls st M
  | .ishr => fs_ii (fun a b => ([], fs_shr a b)) ls st M
  | .iushr => fs_ii (fun a b => ([], fs_ushr a b)) ls st M
  | .ineg => match st with
    | .inl a :: r => ([fs_rg (-a)], ls, .inl (-a) :: r, M)
    | _ => fs_bad ls st M
  | .dup => match st with
    | .inl a :: r => ([], ls, .inl a :: .inl a :: r, M)
    | .inr (.ref a) :: r => ([], ls, .inr (.ref a) :: .inr (.ref a) :: r, M)
    | _ => fs_bad ls st M
  | .dup2 => match st with
    | .inl a :: .inr (.ref b) :: r => ([], ls, .inl a :: .inr (.ref b) :: .inl a :: .inr (.ref b) :: r, M)
    | .inr (.long a) :: r => ([], ls, .inr (.long a) :: .inr (.long a) :: r, M)
    | _ => fs_bad ls st M
  | .pop => match st with
    | .inl _ :: r => ([], ls, r, M)
    | _ => fs_bad ls st M
  | .getfield _ => match st with
    | .inr (.ref r) :: rest => ([r < fs_N ∧ fs_kd r = q.2.2.1], ls, fs_fld q.2.2.1 r q.2.2.2.1 M :: rest, M)
    | _ => fs_bad ls st M
  | .putfield _ => match st with
    | .inl n :: .inr (.ref r) :: rest => ([r < fs_N ∧ fs_kd r = q.2.2.1], ls, rest, fs_up M r q.2.2.2.1 n)
    | _ => fs_bad ls st M
  | .arraylength => match st with
    | .inr (.ref r) :: rest => match q.2.2.1 with
      | 0 => ([r < fs_N ∧ fs_kd r = 100], ls, .inl (fs_ln r) :: rest, M)
      | _ => ([r = 999], ls, .inl (M 999 (-1)) :: rest, M)
    | _ => fs_bad ls st M
  | .iaload => match st with
    | .inl i :: .inr (.ref r) :: rest => match q.2.2.1 with
      | 0 => ([(r < fs_N ∧ fs_kd r = 100) ∧ 0 ≤ i ∧ i < fs_ln r], ls, .inl (M r i) :: rest, M)
      | _ => ([r = 999 ∧ 0 ≤ i ∧ i < M 999 (-1)], ls, .inl (M 999 i) :: rest, M)
    | _ => fs_bad ls st M
  | .iastore => match st with
    | .inl n :: .inl i :: .inr (.ref r) :: rest => ([(r < fs_N ∧ fs_kd r = 100) ∧ 0 ≤ i ∧ i < fs_ln r], ls, rest, fs_up M r i n)
    | _ => fs_bad ls st M
  | .aaload => match st with
    | .inl i :: .inr (.ref r) :: rest => ([r = 19 ∧ 0 ≤ i ∧ i < 12], ls, .inr (.ref (40 + 7 * i.toNat)) :: rest, M)
    | _ => fs_bad ls st M
  | .lconst n => ([], ls, .inr (.long (Int64.ofNat n.val)) :: st, M)
  | .fconst n => match n.val with
    | 0 => ([], ls, .inr (.float FP.fconst0) :: st, M)
    | 1 => ([], ls, .inr (.float FP.fconst1) :: st, M)
    | _ => fs_bad ls st M
  | .dconst n => match n.val with
    | 0 => ([], ls, .inr (.double FP.dconst0) :: st, M)
    | _ => ([], ls, .inr (.double FP.dconst1) :: st, M)
  | .ladd => fs_ll (fun a b => ([], .inr (.long (a + b)))) ls st M
  | .lsub => fs_ll (fun a b => ([], .inr (.long (a - b)))) ls st M
  | .lmul => fs_ll (fun a b => ([], .inr (.long (a * b)))) ls st M
  | .ldiv => fs_ll (fun a b => ([¬ b = 0], .inr (.long (a / b)))) ls st M
  | .lrem => fs_ll (fun a b => ([¬ b = 0], .inr (.long (a - a / b * b)))) ls st M
  | .lcmp => fs_ll (fun a b => ([], .inl (lg_cmp a b).toInt)) ls st M
  | .lshl => match st with
    | .inl b :: .inr (.long a) :: r => ([], ls, .inr (.long (a <<< ((Int32.ofInt b).toInt64 &&& 63))) :: r, M)
    | _ => fs_bad ls st M
  | .i2l => match st with
    | .inl a :: r => ([], ls, .inr (.long (Int32.ofInt a).toInt64) :: r, M)
    | _ => fs_bad ls st M
  | .l2i => match st with
    | .inr (.long a) :: r => ([], ls, .inl a.toInt32.toInt :: r, M)
    | _ => fs_bad ls st M
  | .l2d => match st with
    | .inr (.long a) :: r => ([], ls, .inr (.double (FP.l2d a)) :: r, M)
    | _ => fs_bad ls st M
  | .i2f => match st with
    | .inl a :: r => ([], ls, .inr (.float (FP.i2f (Int32.ofInt a))) :: r, M)
    | _ => fs_bad ls st M
  | .f2d => match st with
    | .inr (.float a) :: r => ([vf_n64 (FP.f2d a)], ls, .inr (.double (FP.f2d a)) :: r, M)
    | _ => fs_bad ls st M
  | .f2i => match st with
    | .inr (.float a) :: r => ([], ls, .inl (FP.f2i a).toInt :: r, M)
    | _ => fs_bad ls st M
  | .d2i => match st with
    | .inr (.double a) :: r => ([], ls, .inl (FP.d2i a).toInt :: r, M)
    | _ => fs_bad ls st M
  | .d2l => match st with
    | .inr (.double a) :: r => ([], ls, .inr (.long (FP.d2l a)) :: r, M)
    | _ => fs_bad ls st M
  | .fadd => fs_ff (fun a b => ([vf_n32 (FP.fadd a b)], .inr (.float (FP.fadd a b)))) ls st M
  | .fsub => fs_ff (fun a b => ([vf_n32 (FP.fsub a b)], .inr (.float (FP.fsub a b)))) ls st M
  | .fmul => fs_ff (fun a b => ([vf_n32 (FP.fmul a b)], .inr (.float (FP.fmul a b)))) ls st M
  | .fdiv => fs_ff (fun a b => ([vf_n32 (FP.fdiv a b)], .inr (.float (FP.fdiv a b)))) ls st M
  | .dadd => fs_dd (fun a b => ([vf_n64 (FP.dadd a b)], .inr (.double (FP.dadd a b)))) ls st M
  | .dsub => fs_dd (fun a b => ([vf_n64 (FP.dsub a b)], .inr (.double (FP.dsub a b)))) ls st M
  | .dmul => fs_dd (fun a b => ([vf_n64 (FP.dmul a b)], .inr (.double (FP.dmul a b)))) ls st M
  | .ddiv => fs_dd (fun a b => ([vf_n64 (FP.ddiv a b)], .inr (.double (FP.ddiv a b)))) ls st M
  | .fcmp op => fs_ff (fun a b => ([], .inl (Op.cmpValue (FP.fcmp a b) op).toInt)) ls st M
  | .dcmp op => fs_dd (fun a b => ([], .inl (Op.cmpValue (FP.dcmp a b) op).toInt)) ls st M
  | _ => fs_bad ls st M
def fs_ex : List fs_I → fs_L → List fs_V → fs_M → fs_R
  | [], ls, st, M => ([], ls, st, M)
  | i :: is, ls, st, M => match fs_st i ls st M with
    | (o, ls', st', M') => match fs_ex is ls' st' M' with
      | (o2, r) => (o ++ o2, r)
/-- a stretch from one place to the next fork, call or end: its straight instructions, where it ends, its last instruction (.nop of length 0: it goes on there) -/
abbrev fs_B : Type := Nat × List fs_I × Nat × fs_I
def fs_cd (c : Jvm.ClassFile.Cond) (a b : Int) : Prop := match c with
  | .eq => a = b
  | .ne => ¬ a = b
  | .lt => a < b
  | .ge => b ≤ a
  | .gt => b < a
  | .le => a ≤ b
def fs_spr : List fs_V → fs_L
  | [] => []
  | .inr (.long x) :: r => some (.inr (.long x)) :: none :: fs_spr r
  | .inr (.double x) :: r => some (.inr (.double x)) :: none :: fs_spr r
  | v :: r => some v :: fs_spr r
def fs_ent (ml : Nat) (as : List fs_V) : fs_L := fs_spr as ++ List.replicate (ml - (fs_spr as).length) none
def fs_cat : fs_V → Nat
  | .inr (.long _) => 2
  | .inr (.double _) => 2
  | _ => 1
def fs_cats (st : List fs_V) : Nat := (st.map fs_cat).sum
