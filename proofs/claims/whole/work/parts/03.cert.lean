-- the check that the printed tables are the code's, and what it gives
def rvZ (a b : Nat) : Int := match b with
  | 0 => (a : Int)
  | _ => -(a : Int)
def rvT : List Cond := lw_tbl.filter goodWord
def rvOwn (i : Nat) : String := rvCn.getD (rvM i).2.2.2.2.1 ""
def rvPc (i n : Nat) : Nat := ((rvCode i).getD n (0, 0, 0, 0, 0, [])).1
def rvCnd : Nat → Jvm.ClassFile.Cond
  | 0 => .eq
  | 1 => .ne
  | 2 => .lt
  | 3 => .ge
  | 4 => .gt
  | _ => .le
def rvBI : Nat → Instr
  | 0 => .iadd
  | 1 => .isub
  | 2 => .imul
  | 3 => .iand
  | 4 => .ior
  | 5 => .ixor
  | 6 => .ishl
  | 7 => .ishr
  | 8 => .idiv
  | 9 => .irem
  | _ => .iushr
def rvLI : Nat → Instr
  | 0 => .ladd
  | 1 => .lsub
  | 2 => .lmul
  | 3 => .land
  | 4 => .lor
  | _ => .ldiv
def rvSI : Nat → Instr
  | 0 => .lshl
  | 1 => .lshr
  | _ => .lushr
def rvUI : Nat → Instr
  | 0 => .ineg
  | 1 => .i2l
  | 2 => .l2i
  | 3 => .i2b
  | _ => .i2s
def rvDc (cc : ByteArray) (pc : Nat) (ins : Instr) (len : Nat) : Bool := decide (decode cc pc = .ok (ins, len))
def rvD (cc : ByteArray) (pc nx : Nat) (ins : Instr) (len : Nat) : Bool := rvDc cc pc ins len && (nx == pc + len)
def rvD4 (cc : ByteArray) (pc nx : Nat) (f : Fin 4 → Instr) (g : Nat → Instr) (a : Nat) : Bool := rvD cc pc nx (g a) 2 || (if h : a < 4 then rvD cc pc nx (f ⟨a, h⟩) 1 else false)
def rvInL (l : List (Nat × Nat × Nat × Nat × Nat)) (o c a b : Nat) : Bool := l.any (fun e => e.1 == o && (e.2.1 == c && (e.2.2.1 == a && e.2.2.2.1 == b)))
def rvInM (l : List (Nat × Nat × Nat × Nat)) (o c a : Nat) : Bool := l.any (fun e => e.1 == o && (e.2.1 == c && e.2.2.1 == a))
def rvCk22 (i pc a b c : Nat) (tb : List Nat) : Bool := match decode (rvM i).2.1 pc with
  | .ok (_, len) => rvDc (rvM i).2.1 pc (.tableswitch ((rvPc i b : Int) - pc) ((a : Int) - 1000) ((c : Int) - 1000) (tb.map (fun t => (rvPc i t : Int) - pc)).toArray) len && decide ((c : Int) - a + 1 = (tb.length : Int))
  | _ => false
def rvCk23 (i n a b c : Nat) (tb : List Nat) : Bool := match tb with
  | [0] => rvD (rvM i).2.1 (rvPc i n) (rvPc i (n + 1)) (.invokevirtual c) 3 && (rvInM rvLm (rvM i).2.2.2.2.1 c a && decide ((rvM a).2.2.2.2.2 = (b, 0)))
  | [1] => rvD (rvM i).2.1 (rvPc i n) (rvPc i (n + 1)) (.invokestatic c) 3 && (rvInM rvLm (rvM i).2.2.2.2.1 c a && decide ((rvM a).2.2.2.2.2 = (b, 1)))
  | [2] => rvD (rvM i).2.1 (rvPc i n) (rvPc i (n + 1)) (.invokestatic c) 3 && (decide (a = 104 ∧ ((rvM i).2.2.2.2.1 = 1 ∧ c = 33 ∨ (rvM i).2.2.2.2.1 = 5 ∧ c = 129)) && decide ((rvM a).2.2.2.2.2 = (b, 1)))
  | _ => false
def rvCk (i n : Nat) (ai : rvI) : Bool := match ai with
  | (pc, op, a, b, c, tb) => match op with
    | 0 => (rvD (rvM i).2.1 pc (rvPc i (n + 1)) (.iconst (rvZ a b)) 1 && decide (Int32.ofInt (rvZ a b) = rvN32 a b)) ||
        ((rvD (rvM i).2.1 pc (rvPc i (n + 1)) (.bipush (rvZ a b)) 2 && decide ((Int8.ofInt (rvZ a b)).toInt32 = rvN32 a b)) ||
        ((rvD (rvM i).2.1 pc (rvPc i (n + 1)) (.sipush (rvZ a b)) 3 && decide ((Int16.ofInt (rvZ a b)).toInt32 = rvN32 a b)) ||
        ((rvD (rvM i).2.1 pc (rvPc i (n + 1)) (.ldc c) 2 && rvInL rvLc (rvM i).2.2.2.2.1 c a b) ||
        (rvD (rvM i).2.1 pc (rvPc i (n + 1)) (.ldc_w c) 3 && rvInL rvLc (rvM i).2.2.2.2.1 c a b))))
    | 1 => (rvD (rvM i).2.1 pc (rvPc i (n + 1)) (.lconst 0) 1 && decide ((0 : Int64) = rvN64 a b)) ||
        ((rvD (rvM i).2.1 pc (rvPc i (n + 1)) (.lconst 1) 1 && decide ((1 : Int64) = rvN64 a b)) ||
        (rvD (rvM i).2.1 pc (rvPc i (n + 1)) (.ldc2_w c) 3 && rvInL rvLl (rvM i).2.2.2.2.1 c a b))
    | 2 => match b with
      | 0 => rvD4 (rvM i).2.1 pc (rvPc i (n + 1)) .iload_n .iload a
      | 1 => rvD4 (rvM i).2.1 pc (rvPc i (n + 1)) .lload_n .lload a
      | _ => rvD4 (rvM i).2.1 pc (rvPc i (n + 1)) .aload_n .aload a
    | 3 => match b with
      | 0 => rvD4 (rvM i).2.1 pc (rvPc i (n + 1)) .istore_n .istore a && decide (a < (rvM i).2.2.1)
      | 1 => rvD4 (rvM i).2.1 pc (rvPc i (n + 1)) .lstore_n .lstore a && decide (a + 1 < (rvM i).2.2.1)
      | _ => rvD4 (rvM i).2.1 pc (rvPc i (n + 1)) .astore_n .astore a && decide (a < (rvM i).2.2.1)
    | 4 => rvD (rvM i).2.1 pc (rvPc i (n + 1)) (.iinc a (rvZ b c)) 3 && (decide (a < (rvM i).2.2.1) && decide (Int32.ofInt (rvZ b c) = rvN32 b c))
    | 5 => rvD (rvM i).2.1 pc (rvPc i (n + 1)) (rvBI a) 1
    | 6 => rvD (rvM i).2.1 pc (rvPc i (n + 1)) (rvLI a) 1
    | 7 => rvD (rvM i).2.1 pc (rvPc i (n + 1)) (rvSI a) 1
    | 8 => rvD (rvM i).2.1 pc (rvPc i (n + 1)) (rvUI a) 1
    | 9 => rvD (rvM i).2.1 pc (rvPc i (n + 1)) .lcmp 1
    | 10 => rvD (rvM i).2.1 pc (rvPc i (n + 1)) (.getfield c) 3 && rvInL rvLf (rvM i).2.2.2.2.1 c a b
    | 11 => rvD (rvM i).2.1 pc (rvPc i (n + 1)) (.putfield c) 3 && rvInL rvLf (rvM i).2.2.2.2.1 c a b
    | 12 => match a with
      | 1 => rvD (rvM i).2.1 pc (rvPc i (n + 1)) .iaload 1
      | 2 => rvD (rvM i).2.1 pc (rvPc i (n + 1)) .laload 1
      | 5 => rvD (rvM i).2.1 pc (rvPc i (n + 1)) .aaload 1
      | _ => rvD (rvM i).2.1 pc (rvPc i (n + 1)) .baload 1
    | 13 => match a with
      | 1 => rvD (rvM i).2.1 pc (rvPc i (n + 1)) .iastore 1
      | 2 => rvD (rvM i).2.1 pc (rvPc i (n + 1)) .lastore 1
      | _ => rvD (rvM i).2.1 pc (rvPc i (n + 1)) .bastore 1
    | 14 => rvD (rvM i).2.1 pc (rvPc i (n + 1)) .arraylength 1
    | 15 => rvD (rvM i).2.1 pc (rvPc i (n + 1)) .dup 1
    | 16 => rvD (rvM i).2.1 pc (rvPc i (n + 1)) .dup_x1 1
    | 17 => rvD (rvM i).2.1 pc (rvPc i (n + 1)) .dup2 1
    | 18 => rvD (rvM i).2.1 pc (rvPc i (n + 1)) .pop 1
    | 19 => rvD (rvM i).2.1 pc (rvPc i (n + 1)) (.ifCond (rvCnd a) ((rvPc i b : Int) - pc)) 3
    | 20 => rvD (rvM i).2.1 pc (rvPc i (n + 1)) (.if_icmp (rvCnd a) ((rvPc i b : Int) - pc)) 3
    | 21 => rvDc (rvM i).2.1 pc (.goto ((rvPc i b : Int) - pc)) 3
    | 22 => rvCk22 i pc a b c tb
    | 23 => decide (a < 191) && rvCk23 i n a b c tb
    | 24 => rvDc (rvM i).2.1 pc .return_ 1
    | 25 => rvDc (rvM i).2.1 pc .ireturn 1
    | 26 => rvDc (rvM i).2.1 pc .lreturn 1
    | 27 => rvDc (rvM i).2.1 pc .areturn 1
    | 28 => match a with
      | 5 => rvD (rvM i).2.1 pc (rvPc i (n + 1)) (.invokevirtual c) 3 && rvInM rvLb (rvM i).2.2.2.2.1 c a
      | 6 => rvD (rvM i).2.1 pc (rvPc i (n + 1)) (.invokevirtual c) 3 && rvInM rvLb (rvM i).2.2.2.2.1 c a
      | _ => rvD (rvM i).2.1 pc (rvPc i (n + 1)) (.invokestatic c) 3 && rvInM rvLb (rvM i).2.2.2.2.1 c a
    | 29 => rvD (rvM i).2.1 pc (rvPc i (n + 1)) (.getstatic 41) 3 && ((rvM i).2.2.2.2.1 == 1)
    | 30 => (rvD (rvM i).2.1 pc (rvPc i (n + 1)) (.ldc c) 2 || rvD (rvM i).2.1 pc (rvPc i (n + 1)) (.ldc_w c) 3) && rvInM rvLs (rvM i).2.2.2.2.1 c a
    | 33 => rvD (rvM i).2.1 pc (rvPc i (n + 1)) .iaload 1
    | 34 => rvD (rvM i).2.1 pc (rvPc i (n + 1)) .arraylength 1
    | _ => true
def rvCkM (i : Nat) : Bool := (List.range (rvCode i).length).all (fun n => rvCk i n ((rvCode i).getD n (0, 0, 0, 0, 0, [])))
def rvAtT (p : Nat) (w : Cond) : Bool := decide (lw_tbl[p]? = some w) && goodWord w
theorem rvAtT_in {p : Nat} {w : Cond} (h : rvAtT p w = true) : w ∈ rvT := by
  simp only [rvAtT, Bool.and_eq_true, decide_eq_true_eq] at h
  exact List.mem_filter.mpr ⟨List.mem_of_getElem? h.1, h.2⟩
theorem rvT_good : GoodIn rvT rvT := fun w h => ⟨h, good_of_word (List.mem_filter.mp h).2⟩
theorem rvT_tbl : GoodIn lw_tbl rvT := fun w h => ⟨(List.mem_filter.mp h).1, good_of_word (List.mem_filter.mp h).2⟩
def rvLfOk (e : Nat × Nat × Nat × Nat × Nat) : Bool := match vwCl[e.2.2.1]? with
  | some q => decide (e.2.2.2.1 < q.2.2) && rvAtT e.2.2.2.2 (.fieldLink (rvCn.getD e.1 "") e.2.1 q.1 (q.2.1 e.2.2.2.1).2.1 (q.2.1 e.2.2.2.1).2.2.1)
  | none => false
set_option maxRecDepth 100000 in
theorem rvLf_ok : rvLf.all rvLfOk = true := by decide +kernel
set_option maxRecDepth 100000 in
theorem rvLm_ok : rvLm.all (fun e => rvAtT e.2.2.2 (.methodLink (rvCn.getD e.1 "") e.2.1 (rvM e.2.2.1).1)) = true := by decide +kernel
set_option maxRecDepth 100000 in
theorem rvLc_ok : rvLc.all (fun e => rvAtT e.2.2.2.2 (.constant (rvCn.getD e.1 "") e.2.1 (rvN32 e.2.2.1 e.2.2.2.1))) = true := by decide +kernel
set_option maxRecDepth 100000 in
theorem rvLl_ok : rvLl.all (fun e => rvAtT e.2.2.2.2 (.constantLong (rvCn.getD e.1 "") e.2.1 (rvN64 e.2.2.1 e.2.2.2.1))) = true := by decide +kernel
/-- a method's words -/
def rvMOk (i : Nat) : Bool := match rvMp.getD i [] with
  | [_, p1, p2, p3] => [rvAtT p1 (.initialized (rvM i).1.cls),
      (if (rvM i).2.2.2.2.2.2 = 1 then rvAtT p2 (.static (rvM i).1) else rvAtT p2 (.instanceMethod (rvM i).1) && rvAtT p3 (.selects (rvM i).1.cls (rvM i).1 (rvM i).1)),
      plainName (rvM i).1.cls,
      decide ((rvM i).1.cls ≠ "java/lang/invoke/MethodHandle" ∧ (rvM i).1.cls ≠ "java/lang/invoke/VarHandle"),
      decide ((parseMethodDescriptor (rvM i).1.desc).map (fun d => d.parameters.length) = some ((rvM i).2.2.2.2.2.1 - (if (rvM i).2.2.2.2.2.2 = 1 then 0 else 1))),
      decide ((rvM i).2.2.1 ≤ 40),
      decide ((rvM i).1.cls = rvOwn i),
      decide ((rvM i).2.2.2.2.2.2 = 1) || (decide ((vwCl[(rvM i).2.2.2.2.1]?).map (fun q => q.1) = some (rvM i).1.cls) && decide (1 ≤ (rvM i).2.2.2.2.2.1))].all id
  | _ => false
set_option maxRecDepth 100000 in
theorem rvM_ok_0 : (List.range 32).all (fun k => rvMOk (0 + k)) = true := by decide +kernel
set_option maxRecDepth 100000 in
theorem rvM_ok_32 : (List.range 32).all (fun k => rvMOk (32 + k)) = true := by decide +kernel
set_option maxRecDepth 100000 in
theorem rvM_ok_64 : (List.range 32).all (fun k => rvMOk (64 + k)) = true := by decide +kernel
set_option maxRecDepth 100000 in
theorem rvM_ok_96 : (List.range 32).all (fun k => rvMOk (96 + k)) = true := by decide +kernel
set_option maxRecDepth 100000 in
theorem rvM_ok_128 : (List.range 32).all (fun k => rvMOk (128 + k)) = true := by decide +kernel
set_option maxRecDepth 100000 in
theorem rvM_ok_160 : (List.range 31).all (fun k => rvMOk (160 + k)) = true := by decide +kernel
theorem rvM_ok : ∀ i, i < 191 → rvMOk i = true := by
  intro i hi
  by_cases h0 : i < 32
  · have h := List.all_eq_true.mp rvM_ok_0 (i - 0) (List.mem_range.mpr (by omega))
    rwa [show 0 + (i - 0) = i by omega] at h
  by_cases h32 : i < 64
  · have h := List.all_eq_true.mp rvM_ok_32 (i - 32) (List.mem_range.mpr (by omega))
    rwa [show 32 + (i - 32) = i by omega] at h
  by_cases h64 : i < 96
  · have h := List.all_eq_true.mp rvM_ok_64 (i - 64) (List.mem_range.mpr (by omega))
    rwa [show 64 + (i - 64) = i by omega] at h
  by_cases h96 : i < 128
  · have h := List.all_eq_true.mp rvM_ok_96 (i - 96) (List.mem_range.mpr (by omega))
    rwa [show 96 + (i - 96) = i by omega] at h
  by_cases h128 : i < 160
  · have h := List.all_eq_true.mp rvM_ok_128 (i - 128) (List.mem_range.mpr (by omega))
    rwa [show 128 + (i - 128) = i by omega] at h
  by_cases h160 : i < 191
  · have h := List.all_eq_true.mp rvM_ok_160 (i - 160) (List.mem_range.mpr (by omega))
    rwa [show 160 + (i - 160) = i by omega] at h
  omega
