-- the small machine over whole numbers, as a function: what it answers, the machine answers
abbrev zV : Type := Int ⊕ (Int ⊕ (Nat × Nat))
abbrev zL : Type := List (Option zV)
abbrev zS : Type := (Nat → Nat → Nat → Int) × (Nat → Nat → Nat → Int)
abbrev zA : Type := Option (Option zV × zS)
abbrev zR : Type := Nat → Nat → Nat → zL → List zV → zS → zA
def zW (z : Int) : Int := (z + 2147483648) % 4294967296 - 2147483648
def zWl (z : Int) : Int := (z + 9223372036854775808) % 18446744073709551616 - 9223372036854775808
def zU (σ : zS) (k n j : Nat) (v : Int) : zS := (fun k' n' j' => if k' = k ∧ j' = j ∧ n' = n then v else σ.1 k' n' j', σ.2)
def zUL (σ : zS) (k n j : Nat) (v : Int) : zS := (σ.1, fun k' n' j' => if k' = k ∧ j' = j ∧ n' = n then v else σ.2 k' n' j')
def zCp (σ : zS) (k n i k2 n2 j m : Nat) : zS := (fun k' n' j' => if k' = k2 ∧ n' = n2 ∧ j ≤ j' ∧ j' < j + m then σ.1 k n (i + (j' - j)) else σ.1 k' n' j', σ.2)
def zLen (σ : zS) (k n : Nat) : Nat := match (rvK k).1 with
  | 11 => (σ.1 k n 1000000).toNat
  | _ => (rvK k).2.1
def zKill : Option zV → Option zV
  | some (.inr (.inl _)) => none
  | x => x
def zSt1 : zL → Nat → zV → zL
  | [], _, _ => []
  | _ :: r, 0, v => some v :: r
  | w :: r, 1, v => zKill w :: zSt1 r 0 v
  | w :: r, i + 2, v => w :: zSt1 r (i + 1) v
def zSt2 : zL → Nat → zV → zL
  | _ :: _ :: r, 0, v => some v :: none :: r
  | w :: r, 1, v => zKill w :: zSt2 r 0 v
  | w :: r, i + 2, v => w :: zSt2 r (i + 1) v
  | _, _, _ => []
def zCat : List zV → Nat
  | [] => 0
  | .inr (.inl _) :: r => 2 + zCat r
  | _ :: r => 1 + zCat r
def zArgs : List zV → zL
  | [] => []
  | .inr (.inl v) :: r => some (.inr (.inl v)) :: none :: zArgs r
  | v :: r => some v :: zArgs r
def zEntry (i : Nat) (as : List zV) : zL := zArgs as ++ List.replicate ((rvM i).2.2.1 - (zArgs as).length) none
def zBinOk (a : Nat) (y : Int) : Bool := match a with
  | 8 => decide (y ≠ 0)
  | 9 => decide (y ≠ 0)
  | _ => true
def zBin (a : Nat) (v y : Int) : Int := match a with
  | 0 => zW (v + y)
  | 1 => zW (v - y)
  | 2 => zW (v * y)
  | 8 => zW (v.tdiv y)
  | 9 => zW (v - zW (zW (v.tdiv y) * y))
  | a => (rvBin a (Int32.ofInt v) (Int32.ofInt y)).toInt
def zLBinOk (a : Nat) (y : Int) : Bool := match a with
  | 0 => true
  | 1 => true
  | 2 => true
  | 3 => true
  | 4 => true
  | _ => decide (y ≠ 0)
def zLBin (a : Nat) (v y : Int) : Int := match a with
  | 0 => zWl (v + y)
  | 1 => zWl (v - y)
  | 2 => zWl (v * y)
  | 3 => (Int64.ofInt v &&& Int64.ofInt y).toInt
  | 4 => (Int64.ofInt v ||| Int64.ofInt y).toInt
  | _ => zWl (v.tdiv y)
def zLSh (a : Nat) (v y : Int) : Int := (rvLSh a (Int64.ofInt v) (Int32.ofInt y)).toInt
def zC1 (a : Nat) (v : Int) : Bool := match a with
  | 0 => decide (v = 0)
  | 1 => decide (¬ v = 0)
  | 2 => decide (v < 0)
  | 3 => decide (0 ≤ v)
  | 4 => decide (0 < v)
  | _ => decide (v ≤ 0)
def zC2 (a : Nat) (v y : Int) : Bool := match a with
  | 0 => decide (v = y)
  | 1 => decide (¬ v = y)
  | 2 => decide (v < y)
  | 3 => decide (y ≤ v)
  | 4 => decide (y < v)
  | _ => decide (v ≤ y)
def zRet (t : Option FieldType) (v : Int) : Bool := match t with
  | some .int => true
  | some .boolean => decide (v = 0 ∨ v = 1)
  | _ => false
def zFld (t : Nat) (v : Int) : Bool := match t with
  | 0 => true
  | 1 => decide (v = 0 ∨ v = 1)
  | _ => false
def zIn (v : Int) (n : Nat) : Bool := decide (0 ≤ v ∧ v < (n : Int))
def zRcv (a : Nat) (as : List zV) : Bool := match as with
  | .inr (.inr (k, _)) :: _ => k == (rvM a).2.2.2.2.1
  | _ => false
def zObj (t : Option FieldType) : Bool := match t with
  | some (.object _) => true
  | _ => false
def zB_0 (rec : zR) (d i n : Nat) (ls : zL) (st : List zV) (σ : zS) (a b c : Nat) (tb : List Nat) : zA := rec d i (n + 1) ls (.inl (zW (rvZ a b)) :: st) σ
def zB_1 (rec : zR) (d i n : Nat) (ls : zL) (st : List zV) (σ : zS) (a b c : Nat) (tb : List Nat) : zA := rec d i (n + 1) ls (.inr (.inl (zWl (rvZ a b))) :: st) σ
def zB_2 (rec : zR) (d i n : Nat) (ls : zL) (st : List zV) (σ : zS) (a b c : Nat) (tb : List Nat) : zA := match ls[a]?, b with
  | some (some (.inl v)), 0 => rec d i (n + 1) ls (.inl v :: st) σ
  | some (some (.inr (.inl v))), 1 => rec d i (n + 1) ls (.inr (.inl v) :: st) σ
  | some (some (.inr (.inr v))), 2 => rec d i (n + 1) ls (.inr (.inr v) :: st) σ
  | _, _ => none
def zB_3 (rec : zR) (d i n : Nat) (ls : zL) (st : List zV) (σ : zS) (a b c : Nat) (tb : List Nat) : zA := match st, b with
  | .inl v :: r, 0 => rec d i (n + 1) (zSt1 ls a (.inl v)) r σ
  | .inr (.inl v) :: r, 1 => rec d i (n + 1) (zSt2 ls a (.inr (.inl v))) r σ
  | .inr (.inr v) :: r, 2 => rec d i (n + 1) (zSt1 ls a (.inr (.inr v))) r σ
  | _, _ => none
def zB_4 (rec : zR) (d i n : Nat) (ls : zL) (st : List zV) (σ : zS) (a b c : Nat) (tb : List Nat) : zA := match ls[a]? with
  | some (some (.inl v)) => rec d i (n + 1) (zSt1 ls a (.inl (zW (v + rvZ b c)))) st σ
  | _ => none
def zB_5 (rec : zR) (d i n : Nat) (ls : zL) (st : List zV) (σ : zS) (a b c : Nat) (tb : List Nat) : zA := match st with
  | .inl y :: .inl v :: r => if zBinOk a y = true then rec d i (n + 1) ls (.inl (zBin a v y) :: r) σ else none
  | _ => none
def zB_6 (rec : zR) (d i n : Nat) (ls : zL) (st : List zV) (σ : zS) (a b c : Nat) (tb : List Nat) : zA := match st with
  | .inr (.inl y) :: .inr (.inl v) :: r => if zLBinOk a y = true then rec d i (n + 1) ls (.inr (.inl (zLBin a v y)) :: r) σ else none
  | _ => none
def zB_7 (rec : zR) (d i n : Nat) (ls : zL) (st : List zV) (σ : zS) (a b c : Nat) (tb : List Nat) : zA := match st with
  | .inl y :: .inr (.inl v) :: r => rec d i (n + 1) ls (.inr (.inl (zLSh a v y)) :: r) σ
  | _ => none
def zB_8 (rec : zR) (d i n : Nat) (ls : zL) (st : List zV) (σ : zS) (a b c : Nat) (tb : List Nat) : zA := match st, a with
  | .inl v :: r, 0 => rec d i (n + 1) ls (.inl (zW (-v)) :: r) σ
  | .inl v :: r, 1 => rec d i (n + 1) ls (.inr (.inl v) :: r) σ
  | .inr (.inl v) :: r, 2 => rec d i (n + 1) ls (.inl (zW v) :: r) σ
  | .inl v :: r, 3 => rec d i (n + 1) ls (.inl ((v + 128) % 256 - 128) :: r) σ
  | .inl v :: r, 4 => rec d i (n + 1) ls (.inl ((v + 32768) % 65536 - 32768) :: r) σ
  | _, _ => none
def zB_9 (rec : zR) (d i n : Nat) (ls : zL) (st : List zV) (σ : zS) (a b c : Nat) (tb : List Nat) : zA := match st with
  | .inr (.inl y) :: .inr (.inl v) :: r => rec d i (n + 1) ls (.inl (if y < v then 1 else if v = y then 0 else -1) :: r) σ
  | _ => none
def zB_10 (rec : zR) (d i n : Nat) (ls : zL) (st : List zV) (σ : zS) (a b c : Nat) (tb : List Nat) : zA := match st with
  | .inr (.inr (k, h)) :: r => if k = a then (match rvFt a b with
    | 0 => rec d i (n + 1) ls (.inl (σ.1 a h b) :: r) σ
    | 1 => rec d i (n + 1) ls (.inl (σ.1 a h b) :: r) σ
    | 2 => rec d i (n + 1) ls (.inr (.inr (rvTg a h b)) :: r) σ
    | _ => none) else none
  | _ => none
def zB_11 (rec : zR) (d i n : Nat) (ls : zL) (st : List zV) (σ : zS) (a b c : Nat) (tb : List Nat) : zA := match st with
  | .inl v :: .inr (.inr (k, h)) :: r => if k = a ∧ zFld (rvFt a b) v = true then rec d i (n + 1) ls r (zU σ a h b v) else none
  | _ => none
def zB_12 (rec : zR) (d i n : Nat) (ls : zL) (st : List zV) (σ : zS) (a b c : Nat) (tb : List Nat) : zA := match st, a with
  | .inl v :: .inr (.inr (k, h)) :: r, 1 => if ((rvK k).1 = 1 ∨ (rvK k).1 = 11) ∧ zIn v (zLen σ k h) = true then rec d i (n + 1) ls (.inl (σ.1 k h v.toNat) :: r) σ else none
  | .inl v :: .inr (.inr (k, h)) :: r, 2 => if (rvK k).1 = 2 ∧ zIn v (zLen σ k h) = true then rec d i (n + 1) ls (.inr (.inl (σ.2 k h v.toNat)) :: r) σ else none
  | .inl v :: .inr (.inr (k, h)) :: r, 3 => if (rvK k).1 = 3 ∧ zIn v (zLen σ k h) = true then rec d i (n + 1) ls (.inl (σ.1 k h v.toNat) :: r) σ else none
  | .inl v :: .inr (.inr (k, h)) :: r, 4 => if (rvK k).1 = 4 ∧ zIn v (zLen σ k h) = true then rec d i (n + 1) ls (.inl (σ.1 k h v.toNat) :: r) σ else none
  | .inl v :: .inr (.inr (k, h)) :: r, 5 => if (5 ≤ (rvK k).1 ∧ (rvK k).1 ≤ 10) ∧ zIn v (zLen σ k h) = true then rec d i (n + 1) ls (.inr (.inr (rvTg k h v.toNat)) :: r) σ else none
  | _, _ => none
def zB_13 (rec : zR) (d i n : Nat) (ls : zL) (st : List zV) (σ : zS) (a b c : Nat) (tb : List Nat) : zA := match st, a with
  | .inl y :: .inl v :: .inr (.inr (k, h)) :: r, 1 => if (rvK k).1 = 1 ∧ zIn v (zLen σ k h) = true then rec d i (n + 1) ls r (zU σ k h v.toNat y) else none
  | .inr (.inl y) :: .inl v :: .inr (.inr (k, h)) :: r, 2 => if (rvK k).1 = 2 ∧ zIn v (zLen σ k h) = true then rec d i (n + 1) ls r (zUL σ k h v.toNat y) else none
  | .inl y :: .inl v :: .inr (.inr (k, h)) :: r, 3 => if (rvK k).1 = 3 ∧ zIn v (zLen σ k h) = true then rec d i (n + 1) ls r (zU σ k h v.toNat ((y + 128) % 256 - 128)) else none
  | .inl y :: .inl v :: .inr (.inr (k, h)) :: r, 4 => if (rvK k).1 = 4 ∧ zIn v (zLen σ k h) = true ∧ (y = 0 ∨ y = 1) then rec d i (n + 1) ls r (zU σ k h v.toNat y) else none
  | _, _ => none
def zB_14 (rec : zR) (d i n : Nat) (ls : zL) (st : List zV) (σ : zS) (a b c : Nat) (tb : List Nat) : zA := match st with
  | .inr (.inr (k, h)) :: r => if 1 ≤ (rvK k).1 ∧ (rvK k).1 ≤ 11 then rec d i (n + 1) ls (.inl (zW (zLen σ k h : Int)) :: r) σ else none
  | _ => none
def zB_15 (rec : zR) (d i n : Nat) (ls : zL) (st : List zV) (σ : zS) (a b c : Nat) (tb : List Nat) : zA := match st with
  | .inl v :: r => rec d i (n + 1) ls (.inl v :: .inl v :: r) σ
  | .inr (.inr v) :: r => rec d i (n + 1) ls (.inr (.inr v) :: .inr (.inr v) :: r) σ
  | _ => none
def zB_16 (rec : zR) (d i n : Nat) (ls : zL) (st : List zV) (σ : zS) (a b c : Nat) (tb : List Nat) : zA := match st with
  | .inl v :: .inl y :: r => rec d i (n + 1) ls (.inl v :: .inl y :: .inl v :: r) σ
  | .inl v :: .inr (.inr y) :: r => rec d i (n + 1) ls (.inl v :: .inr (.inr y) :: .inl v :: r) σ
  | _ => none
def zB_17 (rec : zR) (d i n : Nat) (ls : zL) (st : List zV) (σ : zS) (a b c : Nat) (tb : List Nat) : zA := match st with
  | .inl v :: .inr (.inr y) :: r => rec d i (n + 1) ls (.inl v :: .inr (.inr y) :: .inl v :: .inr (.inr y) :: r) σ
  | _ => none
def zB_18 (rec : zR) (d i n : Nat) (ls : zL) (st : List zV) (σ : zS) (a b c : Nat) (tb : List Nat) : zA := match st with
  | .inl _ :: r => rec d i (n + 1) ls r σ
  | _ => none
def zB_19 (rec : zR) (d i n : Nat) (ls : zL) (st : List zV) (σ : zS) (a b c : Nat) (tb : List Nat) : zA := match st with
  | .inl v :: r => if zC1 a v = true then rec d i b ls r σ else rec d i (n + 1) ls r σ
  | _ => none
def zB_20 (rec : zR) (d i n : Nat) (ls : zL) (st : List zV) (σ : zS) (a b c : Nat) (tb : List Nat) : zA := match st with
  | .inl y :: .inl v :: r => if zC2 a v y = true then rec d i b ls r σ else rec d i (n + 1) ls r σ
  | _ => none
def zB_21 (rec : zR) (d i n : Nat) (ls : zL) (st : List zV) (σ : zS) (a b c : Nat) (tb : List Nat) : zA := rec d i b ls st σ
def zB_22 (rec : zR) (d i n : Nat) (ls : zL) (st : List zV) (σ : zS) (a b c : Nat) (tb : List Nat) : zA := match st with
  | .inl v :: r => if v < (a : Int) - 1000 ∨ (c : Int) - 1000 < v then rec d i b ls r σ else (match tb[(v - ((a : Int) - 1000)).toNat]? with
    | some t => rec d i t ls r σ
    | none => none)
  | _ => none
def zB_23 (rec : zR) (d i n : Nat) (ls : zL) (st : List zV) (σ : zS) (a b c : Nat) (tb : List Nat) : zA := match d with
  | 0 => none
  | d' + 1 => if b ≤ st.length ∧ zCat (st.drop b) ≤ 8 ∧ (tb = [0] → zRcv a (st.take b).reverse = true) ∧ (zArgs (st.take b).reverse).length ≤ (rvM a).2.2.1 then
      (match rec d' a 0 (zEntry a (st.take b).reverse) [] σ with
      | some (v, σ') => rec (d' + 1) i (n + 1) ls (v.toList ++ st.drop b) σ'
      | none => none) else none
def zB_24 (rec : zR) (d i n : Nat) (ls : zL) (st : List zV) (σ : zS) (a b c : Nat) (tb : List Nat) : zA := match st with
  | [] => if (rvM i).2.2.2.1 = none then some (none, σ) else none
  | _ => none
def zB_25 (rec : zR) (d i n : Nat) (ls : zL) (st : List zV) (σ : zS) (a b c : Nat) (tb : List Nat) : zA := match st with
  | [.inl v] => if zRet (rvM i).2.2.2.1 v = true then some (some (.inl v), σ) else none
  | _ => none
def zB_26 (rec : zR) (d i n : Nat) (ls : zL) (st : List zV) (σ : zS) (a b c : Nat) (tb : List Nat) : zA := match st with
  | [.inr (.inl v)] => if (rvM i).2.2.2.1 = some .long then some (some (.inr (.inl v)), σ) else none
  | _ => none
def zB_27 (rec : zR) (d i n : Nat) (ls : zL) (st : List zV) (σ : zS) (a b c : Nat) (tb : List Nat) : zA := match st with
  | [.inr (.inr v)] => if zObj (rvM i).2.2.2.1 = true then some (some (.inr (.inr v)), σ) else none
  | _ => none
def zB_28 (rec : zR) (d i n : Nat) (ls : zL) (st : List zV) (σ : zS) (a b c : Nat) (tb : List Nat) : zA := if d < 10 then none else (match st, a with
  | .inl y :: .inl v :: r, 0 => if zCat r ≤ 8 then rec d i (n + 1) ls (.inl (if v < y then v else y) :: r) σ else none
  | .inl y :: .inl v :: r, 1 => if zCat r ≤ 8 then rec d i (n + 1) ls (.inl (if v < y then y else v) :: r) σ else none
  | .inr (.inl y) :: .inr (.inl v) :: r, 2 => if zCat r ≤ 8 then rec d i (n + 1) ls (.inr (.inl (if y < v then v else y)) :: r) σ else none
  | .inr (.inl y) :: .inr (.inl v) :: r, 3 => if zCat r ≤ 8 then rec d i (n + 1) ls (.inr (.inl (if y < v then y else v)) :: r) σ else none
  | .inl m :: .inl j :: .inr (.inr (k2, h2)) :: .inl v :: .inr (.inr (k, h)) :: r, 4 => if zCat r ≤ 8 ∧ ((rvK k).1 = 1 ∧ (rvK k2).1 = 1) ∧ (0 ≤ v ∧ 0 ≤ j ∧ 0 ≤ m ∧ v + m ≤ (zLen σ k h : Int) ∧ j + m ≤ (zLen σ k2 h2 : Int)) then rec d i (n + 1) ls r (zCp σ k h v.toNat k2 h2 j.toNat m.toNat) else none
  | .inr (.inr (k, h)) :: r, 5 => if k = 106 ∧ zCat r ≤ 6 then rec d i (n + 1) ls (.inl (zW (rvSn.getD h 0 : Int)) :: r) σ else none
  | .inl v :: .inr (.inr (k, h)) :: r, 6 => if k = 106 ∧ zCat r ≤ 6 ∧ zIn v (rvSn.getD h 0) = true then rec d i (n + 1) ls (.inl ((rvSb.getD h []).getD v.toNat 0).toInt :: r) σ else none
  | _, _ => none)
def zB_29 (rec : zR) (d i n : Nat) (ls : zL) (st : List zV) (σ : zS) (a b c : Nat) (tb : List Nat) : zA := rec d i (n + 1) ls (.inr (.inr (105, 0)) :: st) σ
def zB_30 (rec : zR) (d i n : Nat) (ls : zL) (st : List zV) (σ : zS) (a b c : Nat) (tb : List Nat) : zA := rec d i (n + 1) ls (.inr (.inr (106, a)) :: st) σ
def zB_33 (rec : zR) (d i n : Nat) (ls : zL) (st : List zV) (σ : zS) (a b c : Nat) (tb : List Nat) : zA := match st with
  | .inl v :: .inr (.inr (k, _)) :: r => if k = 105 ∧ zIn v 6 = true then rec d i (n + 1) ls (.inl (rvUn.getD v.toNat 0).toInt :: r) σ else none
  | _ => none
def zB_34 (rec : zR) (d i n : Nat) (ls : zL) (st : List zV) (σ : zS) (a b c : Nat) (tb : List Nat) : zA := match st with
  | .inr (.inr (k, _)) :: r => if k = 105 then rec d i (n + 1) ls (.inl 6 :: r) σ else none
  | _ => none
def zBody (rec : zR) (d i n : Nat) (ls : zL) (st : List zV) (σ : zS) (o : Option rvI) : zA := match o with
  | none => none
  | some (_, op, a, b, c, tb) => match op with
    | 0 => zB_0 rec d i n ls st σ a b c tb
    | 1 => zB_1 rec d i n ls st σ a b c tb
    | 2 => zB_2 rec d i n ls st σ a b c tb
    | 3 => zB_3 rec d i n ls st σ a b c tb
    | 4 => zB_4 rec d i n ls st σ a b c tb
    | 5 => zB_5 rec d i n ls st σ a b c tb
    | 6 => zB_6 rec d i n ls st σ a b c tb
    | 7 => zB_7 rec d i n ls st σ a b c tb
    | 8 => zB_8 rec d i n ls st σ a b c tb
    | 9 => zB_9 rec d i n ls st σ a b c tb
    | 10 => zB_10 rec d i n ls st σ a b c tb
    | 11 => zB_11 rec d i n ls st σ a b c tb
    | 12 => zB_12 rec d i n ls st σ a b c tb
    | 13 => zB_13 rec d i n ls st σ a b c tb
    | 14 => zB_14 rec d i n ls st σ a b c tb
    | 15 => zB_15 rec d i n ls st σ a b c tb
    | 16 => zB_16 rec d i n ls st σ a b c tb
    | 17 => zB_17 rec d i n ls st σ a b c tb
    | 18 => zB_18 rec d i n ls st σ a b c tb
    | 19 => zB_19 rec d i n ls st σ a b c tb
    | 20 => zB_20 rec d i n ls st σ a b c tb
    | 21 => zB_21 rec d i n ls st σ a b c tb
    | 22 => zB_22 rec d i n ls st σ a b c tb
    | 23 => zB_23 rec d i n ls st σ a b c tb
    | 24 => zB_24 rec d i n ls st σ a b c tb
    | 25 => zB_25 rec d i n ls st σ a b c tb
    | 26 => zB_26 rec d i n ls st σ a b c tb
    | 27 => zB_27 rec d i n ls st σ a b c tb
    | 28 => zB_28 rec d i n ls st σ a b c tb
    | 29 => zB_29 rec d i n ls st σ a b c tb
    | 30 => zB_30 rec d i n ls st σ a b c tb
    | 33 => zB_33 rec d i n ls st σ a b c tb
    | 34 => zB_34 rec d i n ls st σ a b c tb
    | _ => none
def zEv : Nat → zR
  | 0 => fun _ _ _ _ _ _ => none
  | F + 1 => fun d i n ls st σ => zBody (zEv F) d i n ls st σ ((rvCode i)[n]?)
-- more fuel, the same answer
def zLe (r1 r2 : zR) : Prop := ∀ d i n ls st σ x, r1 d i n ls st σ = some x → r2 d i n ls st σ = some x
theorem zLe_0 {r1 r2 : zR} (hr : zLe r1 r2) {d i n : Nat} {ls : zL} {st : List zV} {σ : zS} {a b c : Nat} {tb : List Nat} {x} (h : zB_0 r1 d i n ls st σ a b c tb = some x) : zB_0 r2 d i n ls st σ a b c tb = some x := by
  revert h; unfold zB_0
  exact hr _ _ _ _ _ _ _
theorem zLe_1 {r1 r2 : zR} (hr : zLe r1 r2) {d i n : Nat} {ls : zL} {st : List zV} {σ : zS} {a b c : Nat} {tb : List Nat} {x} (h : zB_1 r1 d i n ls st σ a b c tb = some x) : zB_1 r2 d i n ls st σ a b c tb = some x := by
  revert h; unfold zB_1
  exact hr _ _ _ _ _ _ _
theorem zLe_2 {r1 r2 : zR} (hr : zLe r1 r2) {d i n : Nat} {ls : zL} {st : List zV} {σ : zS} {a b c : Nat} {tb : List Nat} {x} (h : zB_2 r1 d i n ls st σ a b c tb = some x) : zB_2 r2 d i n ls st σ a b c tb = some x := by
  revert h; unfold zB_2
  repeat' split
  all_goals first | exact hr _ _ _ _ _ _ _ | exact id
theorem zLe_3 {r1 r2 : zR} (hr : zLe r1 r2) {d i n : Nat} {ls : zL} {st : List zV} {σ : zS} {a b c : Nat} {tb : List Nat} {x} (h : zB_3 r1 d i n ls st σ a b c tb = some x) : zB_3 r2 d i n ls st σ a b c tb = some x := by
  revert h; unfold zB_3
  repeat' split
  all_goals first | exact hr _ _ _ _ _ _ _ | exact id
theorem zLe_4 {r1 r2 : zR} (hr : zLe r1 r2) {d i n : Nat} {ls : zL} {st : List zV} {σ : zS} {a b c : Nat} {tb : List Nat} {x} (h : zB_4 r1 d i n ls st σ a b c tb = some x) : zB_4 r2 d i n ls st σ a b c tb = some x := by
  revert h; unfold zB_4
  repeat' split
  all_goals first | exact hr _ _ _ _ _ _ _ | exact id
theorem zLe_5 {r1 r2 : zR} (hr : zLe r1 r2) {d i n : Nat} {ls : zL} {st : List zV} {σ : zS} {a b c : Nat} {tb : List Nat} {x} (h : zB_5 r1 d i n ls st σ a b c tb = some x) : zB_5 r2 d i n ls st σ a b c tb = some x := by
  revert h; unfold zB_5
  repeat' split
  all_goals first | exact hr _ _ _ _ _ _ _ | exact id
theorem zLe_6 {r1 r2 : zR} (hr : zLe r1 r2) {d i n : Nat} {ls : zL} {st : List zV} {σ : zS} {a b c : Nat} {tb : List Nat} {x} (h : zB_6 r1 d i n ls st σ a b c tb = some x) : zB_6 r2 d i n ls st σ a b c tb = some x := by
  revert h; unfold zB_6
  repeat' split
  all_goals first | exact hr _ _ _ _ _ _ _ | exact id
theorem zLe_7 {r1 r2 : zR} (hr : zLe r1 r2) {d i n : Nat} {ls : zL} {st : List zV} {σ : zS} {a b c : Nat} {tb : List Nat} {x} (h : zB_7 r1 d i n ls st σ a b c tb = some x) : zB_7 r2 d i n ls st σ a b c tb = some x := by
  revert h; unfold zB_7
  repeat' split
  all_goals first | exact hr _ _ _ _ _ _ _ | exact id
theorem zLe_8 {r1 r2 : zR} (hr : zLe r1 r2) {d i n : Nat} {ls : zL} {st : List zV} {σ : zS} {a b c : Nat} {tb : List Nat} {x} (h : zB_8 r1 d i n ls st σ a b c tb = some x) : zB_8 r2 d i n ls st σ a b c tb = some x := by
  revert h; unfold zB_8
  repeat' split
  all_goals first | exact hr _ _ _ _ _ _ _ | exact id
theorem zLe_9 {r1 r2 : zR} (hr : zLe r1 r2) {d i n : Nat} {ls : zL} {st : List zV} {σ : zS} {a b c : Nat} {tb : List Nat} {x} (h : zB_9 r1 d i n ls st σ a b c tb = some x) : zB_9 r2 d i n ls st σ a b c tb = some x := by
  revert h; unfold zB_9
  repeat' split
  all_goals first | exact hr _ _ _ _ _ _ _ | exact id
theorem zLe_10 {r1 r2 : zR} (hr : zLe r1 r2) {d i n : Nat} {ls : zL} {st : List zV} {σ : zS} {a b c : Nat} {tb : List Nat} {x} (h : zB_10 r1 d i n ls st σ a b c tb = some x) : zB_10 r2 d i n ls st σ a b c tb = some x := by
  revert h; unfold zB_10
  repeat' split
  all_goals first | exact hr _ _ _ _ _ _ _ | exact id
theorem zLe_11 {r1 r2 : zR} (hr : zLe r1 r2) {d i n : Nat} {ls : zL} {st : List zV} {σ : zS} {a b c : Nat} {tb : List Nat} {x} (h : zB_11 r1 d i n ls st σ a b c tb = some x) : zB_11 r2 d i n ls st σ a b c tb = some x := by
  revert h; unfold zB_11
  repeat' split
  all_goals first | exact hr _ _ _ _ _ _ _ | exact id
theorem zLe_12 {r1 r2 : zR} (hr : zLe r1 r2) {d i n : Nat} {ls : zL} {st : List zV} {σ : zS} {a b c : Nat} {tb : List Nat} {x} (h : zB_12 r1 d i n ls st σ a b c tb = some x) : zB_12 r2 d i n ls st σ a b c tb = some x := by
  revert h; unfold zB_12
  repeat' split
  all_goals first | exact hr _ _ _ _ _ _ _ | exact id
theorem zLe_13 {r1 r2 : zR} (hr : zLe r1 r2) {d i n : Nat} {ls : zL} {st : List zV} {σ : zS} {a b c : Nat} {tb : List Nat} {x} (h : zB_13 r1 d i n ls st σ a b c tb = some x) : zB_13 r2 d i n ls st σ a b c tb = some x := by
  revert h; unfold zB_13
  repeat' split
  all_goals first | exact hr _ _ _ _ _ _ _ | exact id
theorem zLe_14 {r1 r2 : zR} (hr : zLe r1 r2) {d i n : Nat} {ls : zL} {st : List zV} {σ : zS} {a b c : Nat} {tb : List Nat} {x} (h : zB_14 r1 d i n ls st σ a b c tb = some x) : zB_14 r2 d i n ls st σ a b c tb = some x := by
  revert h; unfold zB_14
  repeat' split
  all_goals first | exact hr _ _ _ _ _ _ _ | exact id
theorem zLe_15 {r1 r2 : zR} (hr : zLe r1 r2) {d i n : Nat} {ls : zL} {st : List zV} {σ : zS} {a b c : Nat} {tb : List Nat} {x} (h : zB_15 r1 d i n ls st σ a b c tb = some x) : zB_15 r2 d i n ls st σ a b c tb = some x := by
  revert h; unfold zB_15
  repeat' split
  all_goals first | exact hr _ _ _ _ _ _ _ | exact id
theorem zLe_16 {r1 r2 : zR} (hr : zLe r1 r2) {d i n : Nat} {ls : zL} {st : List zV} {σ : zS} {a b c : Nat} {tb : List Nat} {x} (h : zB_16 r1 d i n ls st σ a b c tb = some x) : zB_16 r2 d i n ls st σ a b c tb = some x := by
  revert h; unfold zB_16
  repeat' split
  all_goals first | exact hr _ _ _ _ _ _ _ | exact id
theorem zLe_17 {r1 r2 : zR} (hr : zLe r1 r2) {d i n : Nat} {ls : zL} {st : List zV} {σ : zS} {a b c : Nat} {tb : List Nat} {x} (h : zB_17 r1 d i n ls st σ a b c tb = some x) : zB_17 r2 d i n ls st σ a b c tb = some x := by
  revert h; unfold zB_17
  repeat' split
  all_goals first | exact hr _ _ _ _ _ _ _ | exact id
theorem zLe_18 {r1 r2 : zR} (hr : zLe r1 r2) {d i n : Nat} {ls : zL} {st : List zV} {σ : zS} {a b c : Nat} {tb : List Nat} {x} (h : zB_18 r1 d i n ls st σ a b c tb = some x) : zB_18 r2 d i n ls st σ a b c tb = some x := by
  revert h; unfold zB_18
  repeat' split
  all_goals first | exact hr _ _ _ _ _ _ _ | exact id
theorem zLe_19 {r1 r2 : zR} (hr : zLe r1 r2) {d i n : Nat} {ls : zL} {st : List zV} {σ : zS} {a b c : Nat} {tb : List Nat} {x} (h : zB_19 r1 d i n ls st σ a b c tb = some x) : zB_19 r2 d i n ls st σ a b c tb = some x := by
  revert h; unfold zB_19
  repeat' split
  all_goals first | exact hr _ _ _ _ _ _ _ | exact id
theorem zLe_20 {r1 r2 : zR} (hr : zLe r1 r2) {d i n : Nat} {ls : zL} {st : List zV} {σ : zS} {a b c : Nat} {tb : List Nat} {x} (h : zB_20 r1 d i n ls st σ a b c tb = some x) : zB_20 r2 d i n ls st σ a b c tb = some x := by
  revert h; unfold zB_20
  repeat' split
  all_goals first | exact hr _ _ _ _ _ _ _ | exact id
theorem zLe_21 {r1 r2 : zR} (hr : zLe r1 r2) {d i n : Nat} {ls : zL} {st : List zV} {σ : zS} {a b c : Nat} {tb : List Nat} {x} (h : zB_21 r1 d i n ls st σ a b c tb = some x) : zB_21 r2 d i n ls st σ a b c tb = some x := by
  revert h; unfold zB_21
  exact hr _ _ _ _ _ _ _
theorem zLe_22 {r1 r2 : zR} (hr : zLe r1 r2) {d i n : Nat} {ls : zL} {st : List zV} {σ : zS} {a b c : Nat} {tb : List Nat} {x} (h : zB_22 r1 d i n ls st σ a b c tb = some x) : zB_22 r2 d i n ls st σ a b c tb = some x := by
  revert h; unfold zB_22
  repeat' split
  all_goals first | exact hr _ _ _ _ _ _ _ | exact id
theorem zLe_23 {r1 r2 : zR} (hr : zLe r1 r2) {d i n : Nat} {ls : zL} {st : List zV} {σ : zS} {a b c : Nat} {tb : List Nat} {x} (h : zB_23 r1 d i n ls st σ a b c tb = some x) : zB_23 r2 d i n ls st σ a b c tb = some x := by
  revert h; unfold zB_23
  split
  · exact id
  · split
    · split
      · rename_i v s hv
        intro h
        rw [hr _ _ _ _ _ _ _ hv]
        exact hr _ _ _ _ _ _ _ h
      · intro h; cases h
    · exact id
theorem zLe_24 {r1 r2 : zR} (hr : zLe r1 r2) {d i n : Nat} {ls : zL} {st : List zV} {σ : zS} {a b c : Nat} {tb : List Nat} {x} (h : zB_24 r1 d i n ls st σ a b c tb = some x) : zB_24 r2 d i n ls st σ a b c tb = some x := by
  revert h; unfold zB_24
  repeat' split
  all_goals first | exact hr _ _ _ _ _ _ _ | exact id
theorem zLe_25 {r1 r2 : zR} (hr : zLe r1 r2) {d i n : Nat} {ls : zL} {st : List zV} {σ : zS} {a b c : Nat} {tb : List Nat} {x} (h : zB_25 r1 d i n ls st σ a b c tb = some x) : zB_25 r2 d i n ls st σ a b c tb = some x := by
  revert h; unfold zB_25
  repeat' split
  all_goals first | exact hr _ _ _ _ _ _ _ | exact id
theorem zLe_26 {r1 r2 : zR} (hr : zLe r1 r2) {d i n : Nat} {ls : zL} {st : List zV} {σ : zS} {a b c : Nat} {tb : List Nat} {x} (h : zB_26 r1 d i n ls st σ a b c tb = some x) : zB_26 r2 d i n ls st σ a b c tb = some x := by
  revert h; unfold zB_26
  repeat' split
  all_goals first | exact hr _ _ _ _ _ _ _ | exact id
theorem zLe_27 {r1 r2 : zR} (hr : zLe r1 r2) {d i n : Nat} {ls : zL} {st : List zV} {σ : zS} {a b c : Nat} {tb : List Nat} {x} (h : zB_27 r1 d i n ls st σ a b c tb = some x) : zB_27 r2 d i n ls st σ a b c tb = some x := by
  revert h; unfold zB_27
  repeat' split
  all_goals first | exact hr _ _ _ _ _ _ _ | exact id
theorem zLe_28 {r1 r2 : zR} (hr : zLe r1 r2) {d i n : Nat} {ls : zL} {st : List zV} {σ : zS} {a b c : Nat} {tb : List Nat} {x} (h : zB_28 r1 d i n ls st σ a b c tb = some x) : zB_28 r2 d i n ls st σ a b c tb = some x := by
  revert h; unfold zB_28
  repeat' split
  all_goals first | exact hr _ _ _ _ _ _ _ | exact id
theorem zLe_29 {r1 r2 : zR} (hr : zLe r1 r2) {d i n : Nat} {ls : zL} {st : List zV} {σ : zS} {a b c : Nat} {tb : List Nat} {x} (h : zB_29 r1 d i n ls st σ a b c tb = some x) : zB_29 r2 d i n ls st σ a b c tb = some x := by
  revert h; unfold zB_29
  exact hr _ _ _ _ _ _ _
theorem zLe_30 {r1 r2 : zR} (hr : zLe r1 r2) {d i n : Nat} {ls : zL} {st : List zV} {σ : zS} {a b c : Nat} {tb : List Nat} {x} (h : zB_30 r1 d i n ls st σ a b c tb = some x) : zB_30 r2 d i n ls st σ a b c tb = some x := by
  revert h; unfold zB_30
  exact hr _ _ _ _ _ _ _
theorem zLe_33 {r1 r2 : zR} (hr : zLe r1 r2) {d i n : Nat} {ls : zL} {st : List zV} {σ : zS} {a b c : Nat} {tb : List Nat} {x} (h : zB_33 r1 d i n ls st σ a b c tb = some x) : zB_33 r2 d i n ls st σ a b c tb = some x := by
  revert h; unfold zB_33
  repeat' split
  all_goals first | exact hr _ _ _ _ _ _ _ | exact id
theorem zLe_34 {r1 r2 : zR} (hr : zLe r1 r2) {d i n : Nat} {ls : zL} {st : List zV} {σ : zS} {a b c : Nat} {tb : List Nat} {x} (h : zB_34 r1 d i n ls st σ a b c tb = some x) : zB_34 r2 d i n ls st σ a b c tb = some x := by
  revert h; unfold zB_34
  repeat' split
  all_goals first | exact hr _ _ _ _ _ _ _ | exact id
theorem zBody_le {r1 r2 : zR} (hr : zLe r1 r2) (d i n : Nat) (ls : zL) (st : List zV) (σ : zS) (o : Option rvI) {x} : zBody r1 d i n ls st σ o = some x → zBody r2 d i n ls st σ o = some x := by
  unfold zBody
  split
  · exact id
  · split
    · exact zLe_0 hr
    · exact zLe_1 hr
    · exact zLe_2 hr
    · exact zLe_3 hr
    · exact zLe_4 hr
    · exact zLe_5 hr
    · exact zLe_6 hr
    · exact zLe_7 hr
    · exact zLe_8 hr
    · exact zLe_9 hr
    · exact zLe_10 hr
    · exact zLe_11 hr
    · exact zLe_12 hr
    · exact zLe_13 hr
    · exact zLe_14 hr
    · exact zLe_15 hr
    · exact zLe_16 hr
    · exact zLe_17 hr
    · exact zLe_18 hr
    · exact zLe_19 hr
    · exact zLe_20 hr
    · exact zLe_21 hr
    · exact zLe_22 hr
    · exact zLe_23 hr
    · exact zLe_24 hr
    · exact zLe_25 hr
    · exact zLe_26 hr
    · exact zLe_27 hr
    · exact zLe_28 hr
    · exact zLe_29 hr
    · exact zLe_30 hr
    · exact zLe_33 hr
    · exact zLe_34 hr
    · exact id
theorem zEv_le1 : ∀ F, zLe (zEv F) (zEv (F + 1))
  | 0 => fun _ _ _ _ _ _ _ h => by cases h
  | F + 1 => fun d i n ls st σ x h => zBody_le (zEv_le1 F) d i n ls st σ _ h
theorem zEv_le {F F2 : Nat} (h : F ≤ F2) : zLe (zEv F) (zEv F2) := by
  obtain ⟨k, rfl⟩ := Nat.exists_eq_add_of_le h
  induction k with
  | zero => exact fun _ _ _ _ _ _ _ h => h
  | succ k ih => exact fun d i n ls st σ x h => zEv_le1 (F + k) d i n ls st σ x (ih (Nat.le_add_right _ _) d i n ls st σ x h)
