-- words and checks of the constructors, and their run again with types (wip/whole/gen/laws88.py)
def gYs : List MethodName := [yX0_init, yX1_init, yX2_init, yX3_init, yX4_init, yX5_init, yX6_init, yX7_init, yX8_init, yX9_init, yX10_init]
def gBs : List ByteArray := [cX0_init, cX1_init, cX2_init, cX3_init, cX4_init, cX5_init, cX6_init, cX7_init, cX8_init, cX9_init, cX10_init]
def gMls : List Nat := [3, 1, 1, 1, 1, 1, 1, 1, 2, 2, 2]
def gY (k : Nat) : MethodName := gYs.getD k yX0_init
def gB (k : Nat) : ByteArray := gBs.getD k cX0_init
def gMl (k : Nat) : Nat := gMls.getD k 0
def gOwn (k : Nat) : String := rvCn.getD k ""
def gPc (i n : Nat) : Nat := ((gCode i).getD n (0, 0, 0, 0, 0)).1
def gLv (k : Nat) : Nat := if k = 9 then 4 else if k = 0 ∨ k = 8 then 3 else 2
/-- places of words: class link, instantiable, initialized, instance method, code -/
def gWp : List (Nat × Nat × Nat × Nat × Nat) := [(269, 270, 69, 272, 273), (98, 133, 67, 135, 136), (277, 328, 71, 330, 331), (96, 105, 66, 107, 108), (275, 279, 70, 281, 282), (395, 396, 72, 398, 399), (439, 441, 73, 443, 444), (100, 171, 68, 173, 174), (90, 91, 64, 93, 94), (82, 83, 63, 85, 86), (1052, 1053, 74, 1055, 1056)]
def gOp : List Nat := [274, 137, 332, 109, 283, 400, 445, 175, 95, 87, 1057]
def gAp : List Nat := [0, 132, 1279, 438, 1278]
def gMp : List (Nat × Nat × Nat) := [(9, 8, 92), (9, 0, 271)]
def gNl : List (Nat × Nat × Nat) := [(8, 63, 3), (8, 64, 1), (8, 65, 7), (0, 41, 4), (0, 42, 2), (9, 30, 5), (9, 41, 6)]
def gNp : List Nat := [106, 134, 172, 280, 329, 397, 442]
def gAoN (t : Nat) : String := match rvTy t with
  | .object C => C
  | _ => ""
def gAop : List (Nat × Nat) := [(5, 99), (6, 278), (7, 97), (8, 276), (9, 440), (10, 101)]
def gAt : Nat → ArrayType
  | 1 => .int
  | 2 => .long
  | 3 => .byte
  | _ => .boolean
def gCN (a : Nat) : String := match vwCl[a]? with
  | some r => r.1
  | none => ""
def gCNn (a : Nat) : Nat := match vwCl[a]? with
  | some r => r.2.2
  | none => 0
def gCk (i n : Nat) (ai : gI) : Bool := match ai with
  | (pc, op, a, b, ix) => match op with
    | 0 => rvD4 (gB i) pc (gPc i (n + 1)) .aload_n .aload a
    | 1 => (rvD (gB i) pc (gPc i (n + 1)) (.iconst (rvZ a b)) 1 && decide (Int32.ofInt (rvZ a b) = rvN32 a b)) || ((rvD (gB i) pc (gPc i (n + 1)) (.bipush (rvZ a b)) 2 && decide ((Int8.ofInt (rvZ a b)).toInt32 = rvN32 a b)) || (rvD (gB i) pc (gPc i (n + 1)) (.sipush (rvZ a b)) 3 && decide ((Int16.ofInt (rvZ a b)).toInt32 = rvN32 a b)))
    | 2 => rvD (gB i) pc (gPc i (n + 1)) (.newarray (gAt a)) 2 && (decide (1 ≤ a ∧ a ≤ 4) && rvAtT (gAp.getD a 0) (.arrayClass (rvTy a)))
    | 3 => rvD (gB i) pc (gPc i (n + 1)) (.putfield ix) 3 && (rvInL rvLf i ix a b && (Nat.beq a i || !(Nat.beq (rvFt a b) 2)))
    | 4 => rvD (gB i) pc (gPc i (n + 1)) (.getfield ix) 3 && rvInL rvLf i ix a b
    | 5 => rvD (gB i) pc (gPc i (n + 1)) (.new ix) 3 && (rvAtT (gWp.getD a (0, 0, 0, 0, 0)).1 (.classLink (gOwn i) ix (gCN a)) && (rvAtT (gWp.getD a (0, 0, 0, 0, 0)).2.1 (.instantiable (gCN a) (gCNn a)) && (rvAtT (gWp.getD a (0, 0, 0, 0, 0)).2.2.1 (.initialized (gCN a)) && decide (a < 11))))
    | 6 => rvD (gB i) pc (gPc i (n + 1)) .dup 1
    | 7 => rvD (gB i) pc (gPc i (n + 1)) (.invokespecial ix) 3 && rvAtT (gOp.getD i 0) (.methodLink (gOwn i) ix Lib.objectInit)
    | 8 => rvD (gB i) pc (gPc i (n + 1)) (.invokespecial ix) 3 && ((gNl.any (fun e => e.1 == i && (e.2.1 == ix && e.2.2 == a)) || gMp.any (fun e => e.1 == i && (e.2.1 == a && rvAtT e.2.2 (.methodLink (gOwn i) ix (gY a))))) && (decide (a < 11 ∧ gLv a + 1 ≤ gLv i) && decide ((parseMethodDescriptor (gY a).desc).map (fun d => d.parameters.length) = some (if b = 0 then 0 else 1))))
    | 9 => rvD4 (gB i) pc (gPc i (n + 1)) .iload_n .iload a
    | 10 => rvD4 (gB i) pc (gPc i (n + 1)) .istore_n .istore a && decide (a < gMl i)
    | 11 => rvD (gB i) pc (gPc i (n + 1)) (.if_icmp .ge ((gPc i a : Int) - pc)) 3
    | 12 => rvD (gB i) pc (gPc i (n + 1)) (.iinc a (b : Int)) 3 && (decide (a < gMl i) && decide (Int32.ofInt (b : Int) = Int32.ofNat b))
    | 13 => rvDc (gB i) pc (.goto ((gPc i a : Int) - pc)) 3
    | 14 => rvD (gB i) pc (gPc i (n + 1)) .iastore 1
    | 15 => rvD (gB i) pc (gPc i (n + 1)) (.anewarray ix) 3 && (decide (5 ≤ a ∧ a ≤ 10) && ((List.range 11).any (fun k => gCN k == gAoN a && rvAtT (gWp.getD k (0, 0, 0, 0, 0)).1 (.classLink (gOwn i) ix (gAoN a)))))
    | 16 => rvD (gB i) pc (gPc i (n + 1)) .aastore 1
    | 17 => rvD (gB i) pc (gPc i (n + 1)) .aaload 1
    | 18 => rvDc (gB i) pc .return_ 1
    | 19 => rvD (gB i) pc (gPc i (n + 1)) (.invokestatic ix) 3 && rvAtT 102 (.methodLink (gOwn i) ix (rvM 190).1)
    | _ => false
def gCkL (i : Nat) : Bool := (List.range (gCode i).length).all (fun n => gCk i n ((gCode i).getD n (0, 0, 0, 0, 0)))
set_option maxRecDepth 100000 in
theorem gCk_0 : gCkL 0 = true := by decide +kernel
set_option maxRecDepth 100000 in
theorem gCk_1 : gCkL 1 = true := by decide +kernel
set_option maxRecDepth 100000 in
theorem gCk_2 : gCkL 2 = true := by decide +kernel
set_option maxRecDepth 100000 in
theorem gCk_3 : gCkL 3 = true := by decide +kernel
set_option maxRecDepth 100000 in
theorem gCk_4 : gCkL 4 = true := by decide +kernel
set_option maxRecDepth 100000 in
theorem gCk_5 : gCkL 5 = true := by decide +kernel
set_option maxRecDepth 100000 in
theorem gCk_6 : gCkL 6 = true := by decide +kernel
set_option maxRecDepth 100000 in
theorem gCk_7 : gCkL 7 = true := by decide +kernel
set_option maxRecDepth 100000 in
theorem gCk_8 : gCkL 8 = true := by decide +kernel
set_option maxRecDepth 100000 in
theorem gCk_9 : gCkL 9 = true := by decide +kernel
set_option maxRecDepth 100000 in
theorem gCk_10 : gCkL 10 = true := by decide +kernel
theorem gCk_at {i n : Nat} {ai : gI} (hi : i < 11) (h : (gCode i)[n]? = some ai) : gCk i n ai = true ∧ ai.1 = gPc i n := by
  have a : gCkL i = true := by
    rcases (show i = 0 ∨ i = 1 ∨ i = 2 ∨ i = 3 ∨ i = 4 ∨ i = 5 ∨ i = 6 ∨ i = 7 ∨ i = 8 ∨ i = 9 ∨ i = 10 by omega) with rfl | rfl | rfl | rfl | rfl | rfl | rfl | rfl | rfl | rfl | rfl
    · exact gCk_0
    · exact gCk_1
    · exact gCk_2
    · exact gCk_3
    · exact gCk_4
    · exact gCk_5
    · exact gCk_6
    · exact gCk_7
    · exact gCk_8
    · exact gCk_9
    · exact gCk_10
  have hn := (List.getElem?_eq_some_iff.mp h).1
  have g : (gCode i).getD n (0, 0, 0, 0, 0) = ai := by rw [List.getD_eq_getElem?_getD, h]; rfl
  have c := List.all_eq_true.mp a n (List.mem_range.mpr hn)
  rw [g] at c
  refine ⟨c, ?_⟩
  unfold gPc
  rw [g]
def gClOk (a : Nat) : Bool := decide ((gY a).cls = gOwn a ∧ gOwn a = gCN a ∧ (gY a).name = "<init>") && (plainName (gY a).cls && (decide ((gY a).cls ≠ "java/lang/invoke/MethodHandle" ∧ (gY a).cls ≠ "java/lang/invoke/VarHandle") && (rvAtT (gWp.getD a (0, 0, 0, 0, 0)).2.2.1 (.initialized (gY a).cls) && (rvAtT (gWp.getD a (0, 0, 0, 0, 0)).2.2.2.1 (.instanceMethod (gY a)) && (rvAtT (gWp.getD a (0, 0, 0, 0, 0)).2.2.2.2 (.code (gY a) (gB a) (gMl a) none) && (decide (gMl a ≤ 4 ∧ gPc a 0 = 0 ∧ gCNn a = (rvFts.getD a []).length) && (List.range (gCNn a)).all (fun k => match vwCl[a]? with
  | some r => (match parseFieldDescriptor (r.2.1 k).2.2.1 with
    | some t => (match defaultValue t with
      | .null => Nat.beq (rvFt a k) 2 && (decide ((r.2.1 k).2.2.2 = true) && (narrow t (.ref 0) == .ref 0 && fits t (.ref 0)))
      | .int v => (v == 0) && !(Nat.beq (rvFt a k) 2)
      | _ => false)
    | none => false)
  | none => false)))))))
set_option maxRecDepth 100000 in
theorem gCl_0 : gClOk 0 = true := by decide +kernel
set_option maxRecDepth 100000 in
theorem gCl_1 : gClOk 1 = true := by decide +kernel
set_option maxRecDepth 100000 in
theorem gCl_2 : gClOk 2 = true := by decide +kernel
set_option maxRecDepth 100000 in
theorem gCl_3 : gClOk 3 = true := by decide +kernel
set_option maxRecDepth 100000 in
theorem gCl_4 : gClOk 4 = true := by decide +kernel
set_option maxRecDepth 100000 in
theorem gCl_5 : gClOk 5 = true := by decide +kernel
set_option maxRecDepth 100000 in
theorem gCl_6 : gClOk 6 = true := by decide +kernel
set_option maxRecDepth 100000 in
theorem gCl_7 : gClOk 7 = true := by decide +kernel
set_option maxRecDepth 100000 in
theorem gCl_8 : gClOk 8 = true := by decide +kernel
set_option maxRecDepth 100000 in
theorem gCl_9 : gClOk 9 = true := by decide +kernel
set_option maxRecDepth 100000 in
theorem gCl_10 : gClOk 10 = true := by decide +kernel
theorem gNl_ok : (List.range 7).all (fun j => decide (lw_tbl[gNp.getD j 0]? = some (.methodLinkNest (gOwn (gNl.getD j (0, 0, 0)).1) (gNl.getD j (0, 0, 0)).2.1 (gY (gNl.getD j (0, 0, 0)).2.2) "RiverCompact"))) = true := by decide +kernel
theorem gAo_ok : gAop.all (fun e => decide (lw_tbl[e.2]? = some (.arrayOver (.object (gAoN e.1))) ∧ rvTy e.1 = .object (gAoN e.1))) = true := by decide +kernel
def gRow (h : List gE) (q : Nat) : Bool := match h[q]? with
  | some (.inr (.inr (.inr (t, _, _)))) => decide (5 ≤ t ∧ t ≤ 10)
  | _ => false
def gFlt (h : List gE) (q : Nat) : Bool := match h[q]? with
  | some (.inr (.inl (_, N, _))) => decide (N ≤ 100000)
  | _ => false
/-- the rows that a constructor writes numbers into -/
def gMod : List Nat := [38, 5, 368, 369, 370, 371]
def gVc (ai : gI) (st : List gV) (h : List gE) : Bool := match ai with
  | (_, 3, a, b, _) => (match st with
    | .inl v :: _ => Nat.beq (rvFt a b) 0 || (Nat.beq (rvFt a b) 1 && (v == 0 || v == 1))
    | .inr (some _) :: _ => Nat.beq (rvFt a b) 2
    | _ => false)
  | (_, 16, _, _, _) => (match st with
    | _ :: _ :: .inr (some q) :: _ => gRow h q
    | _ => false)
  | (_, 17, _, _, _) => (match st with
    | _ :: .inr (some q) :: _ => gRow h q
    | _ => false)
  | (_, 19, _, _, _) => (match st with
    | _ :: .inr (some q) :: _ => Nat.ble st.length 8 && (gFlt h q && gMod.contains q)
    | _ => false)
  | (_, 14, _, _, _) => (match st with
    | _ :: _ :: .inr (some q) :: _ => gMod.contains q
    | _ => false)
  | _ => Nat.ble st.length 8
/-- the run, with the types of what is put into fields -/
def gRunV : Nat → Nat → Nat → List gV → List gV → List gE → Option (List gE)
  | 0, _, _, _, _, _ => none
  | F + 1, i, n, ls, st, h => match (gCode i)[n]? with
    | none => none
    | some ai => if gVc ai st h = true then (match ai with
      | (_, 18, _, _, _) => (match st with
        | [] => some h
        | _ => none)
      | (_, 8, a, 0, _) => (match st with
        | .inr (some q) :: st => (match gRunV F a 0 [.inr (some q), .inr none, .inr none] [] h with
          | some h' => gRunV F i (n + 1) ls st h'
          | none => none)
        | _ => none)
      | (_, 8, a, _, _) => (match st with
        | .inr (some r) :: .inr (some q) :: st => (match gRunV F a 0 [.inr (some q), .inr (some r), .inr none] [] h with
          | some h' => gRunV F i (n + 1) ls st h'
          | none => none)
        | _ => none)
      | ai => (match gStep n ls st h ai with
        | some (n', ls', st', h') => gRunV F i n' ls' st' h'
        | none => none)) else none
def gMk : Option (List gE) := match gRunV 4000 9 0 [.inr (some 0), .inr none, .inr none] [] [.inl (9, gNew 9)] with
  | some h => gRunV 4000 10 0 [.inr (some h.length), .inr none, .inr none] [] (h ++ [.inl (10, gNew 10)])
  | none => none
def gMkOk : Bool := match gMk with
  | some h => Nat.beq h.length 402 && rvCells.all (gOkCell h)
  | none => false
set_option maxRecDepth 100000 in
theorem gMk_ok : gMkOk = true := by decide +kernel
