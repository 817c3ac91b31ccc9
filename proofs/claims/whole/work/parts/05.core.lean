-- the small machine: what a method's code does to locals, stack and cells, as a weakest precondition
def rvFt (k j : Nat) : Nat := (rvFts.getD k []).getD j 9
def rvTg (k n j : Nat) : Nat × Nat := if k < 11 then (match (rvFos.getD k []).getD j (0, 0) with
  | (t, 0) => (t, n)
  | (t, y + 1) => (t, y)) else (match rvRks.getD (rvK k).1 (0, 0) with
  | (ek, sr) => (ek, sr * n + j))
def rvLen (σ : rvS) (k n : Nat) : Nat := match (rvK k).1 with
  | 11 => (σ.1 k n 1000000).toInt.toNat
  | _ => (rvK k).2.1
def rvU (σ : rvS) (k n j : Nat) (v : Int32) : rvS := (fun k' n' j' => if k' = k ∧ n' = n ∧ j' = j then v else σ.1 k' n' j', σ.2)
def rvUL (σ : rvS) (k n j : Nat) (v : Int64) : rvS := (σ.1, fun k' n' j' => if k' = k ∧ n' = n ∧ j' = j then v else σ.2 k' n' j')
/-- n numbers of a row come to another one -/
def rvCp (σ : rvS) (k n i k2 n2 j m : Nat) : rvS := (fun k' n' j' => if k' = k2 ∧ n' = n2 ∧ j ≤ j' ∧ j' < j + m then σ.1 k n (i + (j' - j)) else σ.1 k' n' j', σ.2)
def rvKill : Option rvV → Option rvV
  | some (.inr (.inl _)) => none
  | x => x
def rvSt1 : rvL → Nat → rvV → rvL
  | [], _, _ => []
  | _ :: r, 0, v => some v :: r
  | w :: r, 1, v => rvKill w :: rvSt1 r 0 v
  | w :: r, i + 2, v => w :: rvSt1 r (i + 1) v
def rvSt2 : rvL → Nat → rvV → rvL
  | _ :: _ :: r, 0, v => some v :: none :: r
  | w :: r, 1, v => rvKill w :: rvSt2 r 0 v
  | w :: r, i + 2, v => w :: rvSt2 r (i + 1) v
  | _, _, _ => []
def rvCat : List rvV → Nat
  | [] => 0
  | .inr (.inl _) :: r => 2 + rvCat r
  | _ :: r => 1 + rvCat r
def rvArgs : List rvV → rvL
  | [] => []
  | .inr (.inl v) :: r => some (.inr (.inl v)) :: none :: rvArgs r
  | v :: r => some v :: rvArgs r
def rvEntry (i : Nat) (as : List rvV) : rvL := rvArgs as ++ List.replicate ((rvM i).2.2.1 - (rvArgs as).length) none
def rvBinOk (a : Nat) (y : Int32) : Prop := match a with
  | 8 => ¬ y = 0
  | 9 => ¬ y = 0
  | _ => True
def rvBin (a : Nat) (v y : Int32) : Int32 := match a with
  | 0 => v + y
  | 1 => v - y
  | 2 => v * y
  | 3 => v &&& y
  | 4 => v ||| y
  | 5 => v ^^^ y
  | 6 => v <<< (y &&& 31)
  | 7 => v >>> (y &&& 31)
  | 8 => v / y
  | 9 => v - v / y * y
  | _ => (v.toUInt32 >>> (y.toUInt32 &&& Int32.toUInt32 31)).toInt32
def rvLBinOk (a : Nat) (y : Int64) : Prop := match a with
  | 0 => True
  | 1 => True
  | 2 => True
  | 3 => True
  | 4 => True
  | _ => ¬ y = 0
def rvLBin (a : Nat) (v y : Int64) : Int64 := match a with
  | 0 => v + y
  | 1 => v - y
  | 2 => v * y
  | 3 => v &&& y
  | 4 => v ||| y
  | _ => v / y
def rvLSh (a : Nat) (v : Int64) (y : Int32) : Int64 := match a with
  | 0 => v <<< (y.toInt64 &&& 63)
  | 1 => v >>> (y.toInt64 &&& 63)
  | _ => (v.toUInt64 >>> (y.toInt64.toUInt64 &&& Int64.toUInt64 63)).toInt64
def rvC1 (a : Nat) (v : Int32) : Prop := match a with
  | 0 => v = 0
  | 1 => ¬ v = 0
  | 2 => v < 0
  | 3 => 0 ≤ v
  | 4 => 0 < v
  | _ => v ≤ 0
def rvC2 (a : Nat) (v y : Int32) : Prop := match a with
  | 0 => v = y
  | 1 => ¬ v = y
  | 2 => v < y
  | 3 => y ≤ v
  | 4 => y < v
  | _ => v ≤ y
/-- an answer, a field of this type may hold this number -/
def rvRet (t : Option FieldType) (v : Int32) : Prop := match t with
  | some .int => True
  | some .boolean => v = 0 ∨ v = 1
  | _ => False
def rvFld (t : Nat) (v : Int32) : Prop := match t with
  | 0 => True
  | 1 => v = 0 ∨ v = 1
  | _ => False
def rvSw (v : Int32) (P : Nat → Prop) : List Nat → Int → Prop
  | [], _ => True
  | t :: r, lo => (v.toInt = lo → P t) ∧ rvSw v P r (lo + 1)
abbrev rvR : Type := Nat → Nat → Nat → rvL → List rvV → rvS → (Option rvV → rvS → Prop) → Prop
def rvB_0 (rec : rvR) (d i n : Nat) (ls : rvL) (st : List rvV) (σ : rvS) (Q : Option rvV → rvS → Prop) (a b c : Nat) (tb : List Nat) : Prop := rec d i (n + 1) ls (.inl (rvN32 a b) :: st) σ Q
def rvB_1 (rec : rvR) (d i n : Nat) (ls : rvL) (st : List rvV) (σ : rvS) (Q : Option rvV → rvS → Prop) (a b c : Nat) (tb : List Nat) : Prop := rec d i (n + 1) ls (.inr (.inl (rvN64 a b)) :: st) σ Q
def rvB_2 (rec : rvR) (d i n : Nat) (ls : rvL) (st : List rvV) (σ : rvS) (Q : Option rvV → rvS → Prop) (a b c : Nat) (tb : List Nat) : Prop := match ls[a]?, b with
  | some (some (.inl v)), 0 => rec d i (n + 1) ls (.inl v :: st) σ Q
  | some (some (.inr (.inl v))), 1 => rec d i (n + 1) ls (.inr (.inl v) :: st) σ Q
  | some (some (.inr (.inr v))), 2 => rec d i (n + 1) ls (.inr (.inr v) :: st) σ Q
  | _, _ => False
def rvB_3 (rec : rvR) (d i n : Nat) (ls : rvL) (st : List rvV) (σ : rvS) (Q : Option rvV → rvS → Prop) (a b c : Nat) (tb : List Nat) : Prop := match st, b with
  | .inl v :: r, 0 => rec d i (n + 1) (rvSt1 ls a (.inl v)) r σ Q
  | .inr (.inl v) :: r, 1 => rec d i (n + 1) (rvSt2 ls a (.inr (.inl v))) r σ Q
  | .inr (.inr v) :: r, 2 => rec d i (n + 1) (rvSt1 ls a (.inr (.inr v))) r σ Q
  | _, _ => False
def rvB_4 (rec : rvR) (d i n : Nat) (ls : rvL) (st : List rvV) (σ : rvS) (Q : Option rvV → rvS → Prop) (a b c : Nat) (tb : List Nat) : Prop := match ls[a]? with
  | some (some (.inl v)) => rec d i (n + 1) (rvSt1 ls a (.inl (v + rvN32 b c))) st σ Q
  | _ => False
def rvB_5 (rec : rvR) (d i n : Nat) (ls : rvL) (st : List rvV) (σ : rvS) (Q : Option rvV → rvS → Prop) (a b c : Nat) (tb : List Nat) : Prop := match st with
  | .inl y :: .inl v :: r => rvBinOk a y ∧ rec d i (n + 1) ls (.inl (rvBin a v y) :: r) σ Q
  | _ => False
def rvB_6 (rec : rvR) (d i n : Nat) (ls : rvL) (st : List rvV) (σ : rvS) (Q : Option rvV → rvS → Prop) (a b c : Nat) (tb : List Nat) : Prop := match st with
  | .inr (.inl y) :: .inr (.inl v) :: r => rvLBinOk a y ∧ rec d i (n + 1) ls (.inr (.inl (rvLBin a v y)) :: r) σ Q
  | _ => False
def rvB_7 (rec : rvR) (d i n : Nat) (ls : rvL) (st : List rvV) (σ : rvS) (Q : Option rvV → rvS → Prop) (a b c : Nat) (tb : List Nat) : Prop := match st with
  | .inl y :: .inr (.inl v) :: r => rec d i (n + 1) ls (.inr (.inl (rvLSh a v y)) :: r) σ Q
  | _ => False
def rvB_8 (rec : rvR) (d i n : Nat) (ls : rvL) (st : List rvV) (σ : rvS) (Q : Option rvV → rvS → Prop) (a b c : Nat) (tb : List Nat) : Prop := match st, a with
  | .inl v :: r, 0 => rec d i (n + 1) ls (.inl (-v) :: r) σ Q
  | .inl v :: r, 1 => rec d i (n + 1) ls (.inr (.inl v.toInt64) :: r) σ Q
  | .inr (.inl v) :: r, 2 => rec d i (n + 1) ls (.inl v.toInt32 :: r) σ Q
  | .inl v :: r, 3 => rec d i (n + 1) ls (.inl v.toInt8.toInt32 :: r) σ Q
  | .inl v :: r, 4 => rec d i (n + 1) ls (.inl v.toInt16.toInt32 :: r) σ Q
  | _, _ => False
def rvB_9 (rec : rvR) (d i n : Nat) (ls : rvL) (st : List rvV) (σ : rvS) (Q : Option rvV → rvS → Prop) (a b c : Nat) (tb : List Nat) : Prop := match st with
  | .inr (.inl y) :: .inr (.inl v) :: r => rec d i (n + 1) ls (.inl (lg_cmp v y) :: r) σ Q
  | _ => False
def rvB_10 (rec : rvR) (d i n : Nat) (ls : rvL) (st : List rvV) (σ : rvS) (Q : Option rvV → rvS → Prop) (a b c : Nat) (tb : List Nat) : Prop := match st with
  | .inr (.inr (k, h)) :: r => k = a ∧ (match rvFt a b with
    | 0 => rec d i (n + 1) ls (.inl (σ.1 a h b) :: r) σ Q
    | 1 => rec d i (n + 1) ls (.inl (σ.1 a h b) :: r) σ Q
    | 2 => rec d i (n + 1) ls (.inr (.inr (rvTg a h b)) :: r) σ Q
    | _ => False)
  | _ => False
def rvB_11 (rec : rvR) (d i n : Nat) (ls : rvL) (st : List rvV) (σ : rvS) (Q : Option rvV → rvS → Prop) (a b c : Nat) (tb : List Nat) : Prop := match st with
  | .inl v :: .inr (.inr (k, h)) :: r => k = a ∧ rvFld (rvFt a b) v ∧ rec d i (n + 1) ls r (rvU σ a h b v) Q
  | _ => False
def rvB_12 (rec : rvR) (d i n : Nat) (ls : rvL) (st : List rvV) (σ : rvS) (Q : Option rvV → rvS → Prop) (a b c : Nat) (tb : List Nat) : Prop := match st, a with
  | .inl v :: .inr (.inr (k, h)) :: r, 1 => ((rvK k).1 = 1 ∨ (rvK k).1 = 11) ∧ (0 ≤ v.toInt ∧ v.toInt < (rvLen σ k h : Int)) ∧ rec d i (n + 1) ls (.inl (σ.1 k h v.toInt.toNat) :: r) σ Q
  | .inl v :: .inr (.inr (k, h)) :: r, 2 => (rvK k).1 = 2 ∧ (0 ≤ v.toInt ∧ v.toInt < (rvLen σ k h : Int)) ∧ rec d i (n + 1) ls (.inr (.inl (σ.2 k h v.toInt.toNat)) :: r) σ Q
  | .inl v :: .inr (.inr (k, h)) :: r, 3 => (rvK k).1 = 3 ∧ (0 ≤ v.toInt ∧ v.toInt < (rvLen σ k h : Int)) ∧ rec d i (n + 1) ls (.inl (σ.1 k h v.toInt.toNat) :: r) σ Q
  | .inl v :: .inr (.inr (k, h)) :: r, 4 => (rvK k).1 = 4 ∧ (0 ≤ v.toInt ∧ v.toInt < (rvLen σ k h : Int)) ∧ rec d i (n + 1) ls (.inl (σ.1 k h v.toInt.toNat) :: r) σ Q
  | .inl v :: .inr (.inr (k, h)) :: r, 5 => (5 ≤ (rvK k).1 ∧ (rvK k).1 ≤ 10) ∧ (0 ≤ v.toInt ∧ v.toInt < (rvLen σ k h : Int)) ∧ rec d i (n + 1) ls (.inr (.inr (rvTg k h v.toInt.toNat)) :: r) σ Q
  | _, _ => False
def rvB_13 (rec : rvR) (d i n : Nat) (ls : rvL) (st : List rvV) (σ : rvS) (Q : Option rvV → rvS → Prop) (a b c : Nat) (tb : List Nat) : Prop := match st, a with
  | .inl y :: .inl v :: .inr (.inr (k, h)) :: r, 1 => (rvK k).1 = 1 ∧ (0 ≤ v.toInt ∧ v.toInt < (rvLen σ k h : Int)) ∧ rec d i (n + 1) ls r (rvU σ k h v.toInt.toNat y) Q
  | .inr (.inl y) :: .inl v :: .inr (.inr (k, h)) :: r, 2 => (rvK k).1 = 2 ∧ (0 ≤ v.toInt ∧ v.toInt < (rvLen σ k h : Int)) ∧ rec d i (n + 1) ls r (rvUL σ k h v.toInt.toNat y) Q
  | .inl y :: .inl v :: .inr (.inr (k, h)) :: r, 3 => (rvK k).1 = 3 ∧ (0 ≤ v.toInt ∧ v.toInt < (rvLen σ k h : Int)) ∧ rec d i (n + 1) ls r (rvU σ k h v.toInt.toNat y.toInt8.toInt32) Q
  | .inl y :: .inl v :: .inr (.inr (k, h)) :: r, 4 => (rvK k).1 = 4 ∧ (0 ≤ v.toInt ∧ v.toInt < (rvLen σ k h : Int)) ∧ (y = 0 ∨ y = 1) ∧ rec d i (n + 1) ls r (rvU σ k h v.toInt.toNat y) Q
  | _, _ => False
def rvB_14 (rec : rvR) (d i n : Nat) (ls : rvL) (st : List rvV) (σ : rvS) (Q : Option rvV → rvS → Prop) (a b c : Nat) (tb : List Nat) : Prop := match st with
  | .inr (.inr (k, h)) :: r => (1 ≤ (rvK k).1 ∧ (rvK k).1 ≤ 11) ∧ rec d i (n + 1) ls (.inl (Int32.ofNat (rvLen σ k h)) :: r) σ Q
  | _ => False
def rvB_15 (rec : rvR) (d i n : Nat) (ls : rvL) (st : List rvV) (σ : rvS) (Q : Option rvV → rvS → Prop) (a b c : Nat) (tb : List Nat) : Prop := match st with
  | .inl v :: r => rec d i (n + 1) ls (.inl v :: .inl v :: r) σ Q
  | .inr (.inr v) :: r => rec d i (n + 1) ls (.inr (.inr v) :: .inr (.inr v) :: r) σ Q
  | _ => False
def rvB_16 (rec : rvR) (d i n : Nat) (ls : rvL) (st : List rvV) (σ : rvS) (Q : Option rvV → rvS → Prop) (a b c : Nat) (tb : List Nat) : Prop := match st with
  | .inl v :: .inl y :: r => rec d i (n + 1) ls (.inl v :: .inl y :: .inl v :: r) σ Q
  | .inl v :: .inr (.inr y) :: r => rec d i (n + 1) ls (.inl v :: .inr (.inr y) :: .inl v :: r) σ Q
  | _ => False
def rvB_17 (rec : rvR) (d i n : Nat) (ls : rvL) (st : List rvV) (σ : rvS) (Q : Option rvV → rvS → Prop) (a b c : Nat) (tb : List Nat) : Prop := match st with
  | .inl v :: .inr (.inr y) :: r => rec d i (n + 1) ls (.inl v :: .inr (.inr y) :: .inl v :: .inr (.inr y) :: r) σ Q
  | _ => False
def rvB_18 (rec : rvR) (d i n : Nat) (ls : rvL) (st : List rvV) (σ : rvS) (Q : Option rvV → rvS → Prop) (a b c : Nat) (tb : List Nat) : Prop := match st with
  | .inl _ :: r => rec d i (n + 1) ls r σ Q
  | _ => False
def rvB_19 (rec : rvR) (d i n : Nat) (ls : rvL) (st : List rvV) (σ : rvS) (Q : Option rvV → rvS → Prop) (a b c : Nat) (tb : List Nat) : Prop := match st with
  | .inl v :: r => (rvC1 a v → rec d i b ls r σ Q) ∧ (¬ rvC1 a v → rec d i (n + 1) ls r σ Q)
  | _ => False
def rvB_20 (rec : rvR) (d i n : Nat) (ls : rvL) (st : List rvV) (σ : rvS) (Q : Option rvV → rvS → Prop) (a b c : Nat) (tb : List Nat) : Prop := match st with
  | .inl y :: .inl v :: r => (rvC2 a v y → rec d i b ls r σ Q) ∧ (¬ rvC2 a v y → rec d i (n + 1) ls r σ Q)
  | _ => False
def rvB_21 (rec : rvR) (d i n : Nat) (ls : rvL) (st : List rvV) (σ : rvS) (Q : Option rvV → rvS → Prop) (a b c : Nat) (tb : List Nat) : Prop := rec d i b ls st σ Q
def rvB_22 (rec : rvR) (d i n : Nat) (ls : rvL) (st : List rvV) (σ : rvS) (Q : Option rvV → rvS → Prop) (a b c : Nat) (tb : List Nat) : Prop := match st with
  | .inl v :: r => (v.toInt < (a : Int) - 1000 ∨ (c : Int) - 1000 < v.toInt → rec d i b ls r σ Q) ∧ (¬ (v.toInt < (a : Int) - 1000 ∨ (c : Int) - 1000 < v.toInt) → ∃ t, tb[(v.toInt - ((a : Int) - 1000)).toNat]? = some t ∧ rec d i t ls r σ Q)
  | _ => False
def rvB_23 (rec : rvR) (d i n : Nat) (ls : rvL) (st : List rvV) (σ : rvS) (Q : Option rvV → rvS → Prop) (a b c : Nat) (tb : List Nat) : Prop := match d with
  | 0 => False
  | d' + 1 => (b ≤ st.length ∧ rvCat (st.drop b) ≤ 8 ∧ (tb = [0] → ∃ h r, (st.take b).reverse = .inr (.inr ((rvM a).2.2.2.2.1, h)) :: r) ∧ (rvArgs (st.take b).reverse).length ≤ (rvM a).2.2.1) ∧
      rec d' a 0 (rvEntry a (st.take b).reverse) [] σ (fun v σ' => rec d i (n + 1) ls (v.toList ++ st.drop b) σ' Q)
def rvB_24 (rec : rvR) (d i n : Nat) (ls : rvL) (st : List rvV) (σ : rvS) (Q : Option rvV → rvS → Prop) (a b c : Nat) (tb : List Nat) : Prop := match st with
  | [] => (rvM i).2.2.2.1 = none ∧ Q none σ
  | _ => False
def rvB_25 (rec : rvR) (d i n : Nat) (ls : rvL) (st : List rvV) (σ : rvS) (Q : Option rvV → rvS → Prop) (a b c : Nat) (tb : List Nat) : Prop := match st with
  | [.inl v] => rvRet (rvM i).2.2.2.1 v ∧ Q (some (.inl v)) σ
  | _ => False
def rvB_26 (rec : rvR) (d i n : Nat) (ls : rvL) (st : List rvV) (σ : rvS) (Q : Option rvV → rvS → Prop) (a b c : Nat) (tb : List Nat) : Prop := match st with
  | [.inr (.inl v)] => (rvM i).2.2.2.1 = some .long ∧ Q (some (.inr (.inl v))) σ
  | _ => False
def rvB_27 (rec : rvR) (d i n : Nat) (ls : rvL) (st : List rvV) (σ : rvS) (Q : Option rvV → rvS → Prop) (a b c : Nat) (tb : List Nat) : Prop := match st with
  | [.inr (.inr v)] => (∃ C, (rvM i).2.2.2.1 = some (.object C)) ∧ Q (some (.inr (.inr v))) σ
  | _ => False
def rvB_28 (rec : rvR) (d i n : Nat) (ls : rvL) (st : List rvV) (σ : rvS) (Q : Option rvV → rvS → Prop) (a b c : Nat) (tb : List Nat) : Prop := 10 ≤ d ∧ (match st, a with
  | .inl y :: .inl v :: r, 0 => rvCat r ≤ 8 ∧ rec d i (n + 1) ls (.inl (if v < y then v else y) :: r) σ Q
  | .inl y :: .inl v :: r, 1 => rvCat r ≤ 8 ∧ rec d i (n + 1) ls (.inl (if v < y then y else v) :: r) σ Q
  | .inr (.inl y) :: .inr (.inl v) :: r, 2 => rvCat r ≤ 8 ∧ rec d i (n + 1) ls (.inr (.inl (if y < v then v else y)) :: r) σ Q
  | .inr (.inl y) :: .inr (.inl v) :: r, 3 => rvCat r ≤ 8 ∧ rec d i (n + 1) ls (.inr (.inl (if y < v then y else v)) :: r) σ Q
  | .inl m :: .inl j :: .inr (.inr (k2, h2)) :: .inl v :: .inr (.inr (k, h)) :: r, 4 => rvCat r ≤ 8 ∧ ((rvK k).1 = 1 ∧ (rvK k2).1 = 1) ∧ (0 ≤ v.toInt ∧ 0 ≤ j.toInt ∧ 0 ≤ m.toInt ∧ v.toInt + m.toInt ≤ (rvLen σ k h : Int) ∧ j.toInt + m.toInt ≤ (rvLen σ k2 h2 : Int)) ∧ rec d i (n + 1) ls r (rvCp σ k h v.toInt.toNat k2 h2 j.toInt.toNat m.toInt.toNat) Q
  | .inr (.inr (k, h)) :: r, 5 => k = 106 ∧ rvCat r ≤ 6 ∧ rec d i (n + 1) ls (.inl (Int32.ofNat (rvSn.getD h 0)) :: r) σ Q
  | .inl v :: .inr (.inr (k, h)) :: r, 6 => k = 106 ∧ rvCat r ≤ 6 ∧ (0 ≤ v.toInt ∧ v.toInt < (rvSn.getD h 0 : Int)) ∧ rec d i (n + 1) ls (.inl ((rvSb.getD h []).getD v.toInt.toNat 0) :: r) σ Q
  | _, _ => False)
def rvB_29 (rec : rvR) (d i n : Nat) (ls : rvL) (st : List rvV) (σ : rvS) (Q : Option rvV → rvS → Prop) (a b c : Nat) (tb : List Nat) : Prop := rec d i (n + 1) ls (.inr (.inr (105, 0)) :: st) σ Q
def rvB_30 (rec : rvR) (d i n : Nat) (ls : rvL) (st : List rvV) (σ : rvS) (Q : Option rvV → rvS → Prop) (a b c : Nat) (tb : List Nat) : Prop := rec d i (n + 1) ls (.inr (.inr (106, a)) :: st) σ Q
def rvB_33 (rec : rvR) (d i n : Nat) (ls : rvL) (st : List rvV) (σ : rvS) (Q : Option rvV → rvS → Prop) (a b c : Nat) (tb : List Nat) : Prop := match st with
  | .inl v :: .inr (.inr (k, _)) :: r => k = 105 ∧ (0 ≤ v.toInt ∧ v.toInt < 6) ∧ rec d i (n + 1) ls (.inl (rvUn.getD v.toInt.toNat 0) :: r) σ Q
  | _ => False
def rvB_34 (rec : rvR) (d i n : Nat) (ls : rvL) (st : List rvV) (σ : rvS) (Q : Option rvV → rvS → Prop) (a b c : Nat) (tb : List Nat) : Prop := match st with
  | .inr (.inr (k, _)) :: r => k = 105 ∧ rec d i (n + 1) ls (.inl 6 :: r) σ Q
  | _ => False
def rvBody (rec : rvR) (d i n : Nat) (ls : rvL) (st : List rvV) (σ : rvS) (Q : Option rvV → rvS → Prop) (o : Option rvI) : Prop := match o with
  | none => False
  | some (_, op, a, b, c, tb) => match op with
    | 0 => rvB_0 rec d i n ls st σ Q a b c tb
    | 1 => rvB_1 rec d i n ls st σ Q a b c tb
    | 2 => rvB_2 rec d i n ls st σ Q a b c tb
    | 3 => rvB_3 rec d i n ls st σ Q a b c tb
    | 4 => rvB_4 rec d i n ls st σ Q a b c tb
    | 5 => rvB_5 rec d i n ls st σ Q a b c tb
    | 6 => rvB_6 rec d i n ls st σ Q a b c tb
    | 7 => rvB_7 rec d i n ls st σ Q a b c tb
    | 8 => rvB_8 rec d i n ls st σ Q a b c tb
    | 9 => rvB_9 rec d i n ls st σ Q a b c tb
    | 10 => rvB_10 rec d i n ls st σ Q a b c tb
    | 11 => rvB_11 rec d i n ls st σ Q a b c tb
    | 12 => rvB_12 rec d i n ls st σ Q a b c tb
    | 13 => rvB_13 rec d i n ls st σ Q a b c tb
    | 14 => rvB_14 rec d i n ls st σ Q a b c tb
    | 15 => rvB_15 rec d i n ls st σ Q a b c tb
    | 16 => rvB_16 rec d i n ls st σ Q a b c tb
    | 17 => rvB_17 rec d i n ls st σ Q a b c tb
    | 18 => rvB_18 rec d i n ls st σ Q a b c tb
    | 19 => rvB_19 rec d i n ls st σ Q a b c tb
    | 20 => rvB_20 rec d i n ls st σ Q a b c tb
    | 21 => rvB_21 rec d i n ls st σ Q a b c tb
    | 22 => rvB_22 rec d i n ls st σ Q a b c tb
    | 23 => rvB_23 rec d i n ls st σ Q a b c tb
    | 24 => rvB_24 rec d i n ls st σ Q a b c tb
    | 25 => rvB_25 rec d i n ls st σ Q a b c tb
    | 26 => rvB_26 rec d i n ls st σ Q a b c tb
    | 27 => rvB_27 rec d i n ls st σ Q a b c tb
    | 28 => rvB_28 rec d i n ls st σ Q a b c tb
    | 29 => rvB_29 rec d i n ls st σ Q a b c tb
    | 30 => rvB_30 rec d i n ls st σ Q a b c tb
    | 33 => rvB_33 rec d i n ls st σ Q a b c tb
    | 34 => rvB_34 rec d i n ls st σ Q a b c tb
    | _ => False
def rvWp : Nat → rvR
  | 0 => fun _ _ _ _ _ _ _ => False
  | F + 1 => fun d i n ls st σ Q => rvBody (rvWp F) d i n ls st σ Q ((rvCode i)[n]?)
theorem rvWp_succ (F d i n : Nat) (ls : rvL) (st : List rvV) (σ : rvS) (Q : Option rvV → rvS → Prop) : rvWp (F + 1) d i n ls st σ Q = rvBody (rvWp F) d i n ls st σ Q ((rvCode i)[n]?) := rfl
/-- what the recursion is asked of may be weakened -/
def rvMonR (r1 r2 : rvR) : Prop := ∀ d i n ls st σ (Q Q2 : Option rvV → rvS → Prop), (∀ v s, Q v s → Q2 v s) → r1 d i n ls st σ Q → r2 d i n ls st σ Q2
theorem rvSw_mono {v : Int32} {P P2 : Nat → Prop} (h : ∀ t, P t → P2 t) : ∀ (l : List Nat) (lo : Int), rvSw v P l lo → rvSw v P2 l lo
  | [], _, _ => trivial
  | t :: r, lo, ⟨a, b⟩ => ⟨fun e => h _ (a e), rvSw_mono h r (lo + 1) b⟩
section RvMono
variable {r1 r2 : rvR} {d i n : Nat} {ls : rvL} {st : List rvV} {σ : rvS} {Q Q2 : Option rvV → rvS → Prop} {a b c : Nat} {tb : List Nat}
theorem rvMo_0 (hr : rvMonR r1 r2) (hQ : ∀ v s, Q v s → Q2 v s) (h : rvB_0 r1 d i n ls st σ Q a b c tb) : rvB_0 r2 d i n ls st σ Q2 a b c tb := by
  have h0 : ∀ d i n ls st σ, r1 d i n ls st σ Q → r2 d i n ls st σ Q2 := fun d i n ls st σ => hr d i n ls st σ Q Q2 hQ
  revert h; unfold rvB_0
  first
    | exact fun h => h0 _ _ _ _ _ _ h
    | (split <;> first
        | exact fun h => h0 _ _ _ _ _ _ h
        | exact fun ⟨e1, h⟩ => ⟨e1, h0 _ _ _ _ _ _ h⟩
        | exact fun ⟨e1, e2, h⟩ => ⟨e1, e2, h0 _ _ _ _ _ _ h⟩
        | exact fun ⟨e1, e2, e3, h⟩ => ⟨e1, e2, e3, h0 _ _ _ _ _ _ h⟩
        | exact fun ⟨e1, h⟩ => ⟨fun q => h0 _ _ _ _ _ _ (e1 q), fun q => h0 _ _ _ _ _ _ (h q)⟩
        | exact fun ⟨e1, h⟩ => ⟨e1, hQ _ _ h⟩
        | exact id)
theorem rvMo_1 (hr : rvMonR r1 r2) (hQ : ∀ v s, Q v s → Q2 v s) (h : rvB_1 r1 d i n ls st σ Q a b c tb) : rvB_1 r2 d i n ls st σ Q2 a b c tb := by
  have h0 : ∀ d i n ls st σ, r1 d i n ls st σ Q → r2 d i n ls st σ Q2 := fun d i n ls st σ => hr d i n ls st σ Q Q2 hQ
  revert h; unfold rvB_1
  first
    | exact fun h => h0 _ _ _ _ _ _ h
    | (split <;> first
        | exact fun h => h0 _ _ _ _ _ _ h
        | exact fun ⟨e1, h⟩ => ⟨e1, h0 _ _ _ _ _ _ h⟩
        | exact fun ⟨e1, e2, h⟩ => ⟨e1, e2, h0 _ _ _ _ _ _ h⟩
        | exact fun ⟨e1, e2, e3, h⟩ => ⟨e1, e2, e3, h0 _ _ _ _ _ _ h⟩
        | exact fun ⟨e1, h⟩ => ⟨fun q => h0 _ _ _ _ _ _ (e1 q), fun q => h0 _ _ _ _ _ _ (h q)⟩
        | exact fun ⟨e1, h⟩ => ⟨e1, hQ _ _ h⟩
        | exact id)
theorem rvMo_2 (hr : rvMonR r1 r2) (hQ : ∀ v s, Q v s → Q2 v s) (h : rvB_2 r1 d i n ls st σ Q a b c tb) : rvB_2 r2 d i n ls st σ Q2 a b c tb := by
  have h0 : ∀ d i n ls st σ, r1 d i n ls st σ Q → r2 d i n ls st σ Q2 := fun d i n ls st σ => hr d i n ls st σ Q Q2 hQ
  revert h; unfold rvB_2
  first
    | exact fun h => h0 _ _ _ _ _ _ h
    | (split <;> first
        | exact fun h => h0 _ _ _ _ _ _ h
        | exact fun ⟨e1, h⟩ => ⟨e1, h0 _ _ _ _ _ _ h⟩
        | exact fun ⟨e1, e2, h⟩ => ⟨e1, e2, h0 _ _ _ _ _ _ h⟩
        | exact fun ⟨e1, e2, e3, h⟩ => ⟨e1, e2, e3, h0 _ _ _ _ _ _ h⟩
        | exact fun ⟨e1, h⟩ => ⟨fun q => h0 _ _ _ _ _ _ (e1 q), fun q => h0 _ _ _ _ _ _ (h q)⟩
        | exact fun ⟨e1, h⟩ => ⟨e1, hQ _ _ h⟩
        | exact id)
theorem rvMo_3 (hr : rvMonR r1 r2) (hQ : ∀ v s, Q v s → Q2 v s) (h : rvB_3 r1 d i n ls st σ Q a b c tb) : rvB_3 r2 d i n ls st σ Q2 a b c tb := by
  have h0 : ∀ d i n ls st σ, r1 d i n ls st σ Q → r2 d i n ls st σ Q2 := fun d i n ls st σ => hr d i n ls st σ Q Q2 hQ
  revert h; unfold rvB_3
  first
    | exact fun h => h0 _ _ _ _ _ _ h
    | (split <;> first
        | exact fun h => h0 _ _ _ _ _ _ h
        | exact fun ⟨e1, h⟩ => ⟨e1, h0 _ _ _ _ _ _ h⟩
        | exact fun ⟨e1, e2, h⟩ => ⟨e1, e2, h0 _ _ _ _ _ _ h⟩
        | exact fun ⟨e1, e2, e3, h⟩ => ⟨e1, e2, e3, h0 _ _ _ _ _ _ h⟩
        | exact fun ⟨e1, h⟩ => ⟨fun q => h0 _ _ _ _ _ _ (e1 q), fun q => h0 _ _ _ _ _ _ (h q)⟩
        | exact fun ⟨e1, h⟩ => ⟨e1, hQ _ _ h⟩
        | exact id)
theorem rvMo_4 (hr : rvMonR r1 r2) (hQ : ∀ v s, Q v s → Q2 v s) (h : rvB_4 r1 d i n ls st σ Q a b c tb) : rvB_4 r2 d i n ls st σ Q2 a b c tb := by
  have h0 : ∀ d i n ls st σ, r1 d i n ls st σ Q → r2 d i n ls st σ Q2 := fun d i n ls st σ => hr d i n ls st σ Q Q2 hQ
  revert h; unfold rvB_4
  first
    | exact fun h => h0 _ _ _ _ _ _ h
    | (split <;> first
        | exact fun h => h0 _ _ _ _ _ _ h
        | exact fun ⟨e1, h⟩ => ⟨e1, h0 _ _ _ _ _ _ h⟩
        | exact fun ⟨e1, e2, h⟩ => ⟨e1, e2, h0 _ _ _ _ _ _ h⟩
        | exact fun ⟨e1, e2, e3, h⟩ => ⟨e1, e2, e3, h0 _ _ _ _ _ _ h⟩
        | exact fun ⟨e1, h⟩ => ⟨fun q => h0 _ _ _ _ _ _ (e1 q), fun q => h0 _ _ _ _ _ _ (h q)⟩
        | exact fun ⟨e1, h⟩ => ⟨e1, hQ _ _ h⟩
        | exact id)
theorem rvMo_5 (hr : rvMonR r1 r2) (hQ : ∀ v s, Q v s → Q2 v s) (h : rvB_5 r1 d i n ls st σ Q a b c tb) : rvB_5 r2 d i n ls st σ Q2 a b c tb := by
  have h0 : ∀ d i n ls st σ, r1 d i n ls st σ Q → r2 d i n ls st σ Q2 := fun d i n ls st σ => hr d i n ls st σ Q Q2 hQ
  revert h; unfold rvB_5
  first
    | exact fun h => h0 _ _ _ _ _ _ h
    | (split <;> first
        | exact fun h => h0 _ _ _ _ _ _ h
        | exact fun ⟨e1, h⟩ => ⟨e1, h0 _ _ _ _ _ _ h⟩
        | exact fun ⟨e1, e2, h⟩ => ⟨e1, e2, h0 _ _ _ _ _ _ h⟩
        | exact fun ⟨e1, e2, e3, h⟩ => ⟨e1, e2, e3, h0 _ _ _ _ _ _ h⟩
        | exact fun ⟨e1, h⟩ => ⟨fun q => h0 _ _ _ _ _ _ (e1 q), fun q => h0 _ _ _ _ _ _ (h q)⟩
        | exact fun ⟨e1, h⟩ => ⟨e1, hQ _ _ h⟩
        | exact id)
theorem rvMo_6 (hr : rvMonR r1 r2) (hQ : ∀ v s, Q v s → Q2 v s) (h : rvB_6 r1 d i n ls st σ Q a b c tb) : rvB_6 r2 d i n ls st σ Q2 a b c tb := by
  have h0 : ∀ d i n ls st σ, r1 d i n ls st σ Q → r2 d i n ls st σ Q2 := fun d i n ls st σ => hr d i n ls st σ Q Q2 hQ
  revert h; unfold rvB_6
  first
    | exact fun h => h0 _ _ _ _ _ _ h
    | (split <;> first
        | exact fun h => h0 _ _ _ _ _ _ h
        | exact fun ⟨e1, h⟩ => ⟨e1, h0 _ _ _ _ _ _ h⟩
        | exact fun ⟨e1, e2, h⟩ => ⟨e1, e2, h0 _ _ _ _ _ _ h⟩
        | exact fun ⟨e1, e2, e3, h⟩ => ⟨e1, e2, e3, h0 _ _ _ _ _ _ h⟩
        | exact fun ⟨e1, h⟩ => ⟨fun q => h0 _ _ _ _ _ _ (e1 q), fun q => h0 _ _ _ _ _ _ (h q)⟩
        | exact fun ⟨e1, h⟩ => ⟨e1, hQ _ _ h⟩
        | exact id)
theorem rvMo_7 (hr : rvMonR r1 r2) (hQ : ∀ v s, Q v s → Q2 v s) (h : rvB_7 r1 d i n ls st σ Q a b c tb) : rvB_7 r2 d i n ls st σ Q2 a b c tb := by
  have h0 : ∀ d i n ls st σ, r1 d i n ls st σ Q → r2 d i n ls st σ Q2 := fun d i n ls st σ => hr d i n ls st σ Q Q2 hQ
  revert h; unfold rvB_7
  first
    | exact fun h => h0 _ _ _ _ _ _ h
    | (split <;> first
        | exact fun h => h0 _ _ _ _ _ _ h
        | exact fun ⟨e1, h⟩ => ⟨e1, h0 _ _ _ _ _ _ h⟩
        | exact fun ⟨e1, e2, h⟩ => ⟨e1, e2, h0 _ _ _ _ _ _ h⟩
        | exact fun ⟨e1, e2, e3, h⟩ => ⟨e1, e2, e3, h0 _ _ _ _ _ _ h⟩
        | exact fun ⟨e1, h⟩ => ⟨fun q => h0 _ _ _ _ _ _ (e1 q), fun q => h0 _ _ _ _ _ _ (h q)⟩
        | exact fun ⟨e1, h⟩ => ⟨e1, hQ _ _ h⟩
        | exact id)
theorem rvMo_8 (hr : rvMonR r1 r2) (hQ : ∀ v s, Q v s → Q2 v s) (h : rvB_8 r1 d i n ls st σ Q a b c tb) : rvB_8 r2 d i n ls st σ Q2 a b c tb := by
  have h0 : ∀ d i n ls st σ, r1 d i n ls st σ Q → r2 d i n ls st σ Q2 := fun d i n ls st σ => hr d i n ls st σ Q Q2 hQ
  revert h; unfold rvB_8
  first
    | exact fun h => h0 _ _ _ _ _ _ h
    | (split <;> first
        | exact fun h => h0 _ _ _ _ _ _ h
        | exact fun ⟨e1, h⟩ => ⟨e1, h0 _ _ _ _ _ _ h⟩
        | exact fun ⟨e1, e2, h⟩ => ⟨e1, e2, h0 _ _ _ _ _ _ h⟩
        | exact fun ⟨e1, e2, e3, h⟩ => ⟨e1, e2, e3, h0 _ _ _ _ _ _ h⟩
        | exact fun ⟨e1, h⟩ => ⟨fun q => h0 _ _ _ _ _ _ (e1 q), fun q => h0 _ _ _ _ _ _ (h q)⟩
        | exact fun ⟨e1, h⟩ => ⟨e1, hQ _ _ h⟩
        | exact id)
theorem rvMo_9 (hr : rvMonR r1 r2) (hQ : ∀ v s, Q v s → Q2 v s) (h : rvB_9 r1 d i n ls st σ Q a b c tb) : rvB_9 r2 d i n ls st σ Q2 a b c tb := by
  have h0 : ∀ d i n ls st σ, r1 d i n ls st σ Q → r2 d i n ls st σ Q2 := fun d i n ls st σ => hr d i n ls st σ Q Q2 hQ
  revert h; unfold rvB_9
  first
    | exact fun h => h0 _ _ _ _ _ _ h
    | (split <;> first
        | exact fun h => h0 _ _ _ _ _ _ h
        | exact fun ⟨e1, h⟩ => ⟨e1, h0 _ _ _ _ _ _ h⟩
        | exact fun ⟨e1, e2, h⟩ => ⟨e1, e2, h0 _ _ _ _ _ _ h⟩
        | exact fun ⟨e1, e2, e3, h⟩ => ⟨e1, e2, e3, h0 _ _ _ _ _ _ h⟩
        | exact fun ⟨e1, h⟩ => ⟨fun q => h0 _ _ _ _ _ _ (e1 q), fun q => h0 _ _ _ _ _ _ (h q)⟩
        | exact fun ⟨e1, h⟩ => ⟨e1, hQ _ _ h⟩
        | exact id)
theorem rvMo_10 (hr : rvMonR r1 r2) (hQ : ∀ v s, Q v s → Q2 v s) (h : rvB_10 r1 d i n ls st σ Q a b c tb) : rvB_10 r2 d i n ls st σ Q2 a b c tb := by
  have h0 : ∀ d i n ls st σ, r1 d i n ls st σ Q → r2 d i n ls st σ Q2 := fun d i n ls st σ => hr d i n ls st σ Q Q2 hQ
  revert h; unfold rvB_10
  split
  · refine fun ⟨e, h⟩ => ⟨e, ?_⟩
    revert h
    split <;> first | exact fun h => h0 _ _ _ _ _ _ h | exact id
  · exact id
theorem rvMo_11 (hr : rvMonR r1 r2) (hQ : ∀ v s, Q v s → Q2 v s) (h : rvB_11 r1 d i n ls st σ Q a b c tb) : rvB_11 r2 d i n ls st σ Q2 a b c tb := by
  have h0 : ∀ d i n ls st σ, r1 d i n ls st σ Q → r2 d i n ls st σ Q2 := fun d i n ls st σ => hr d i n ls st σ Q Q2 hQ
  revert h; unfold rvB_11
  first
    | exact fun h => h0 _ _ _ _ _ _ h
    | (split <;> first
        | exact fun h => h0 _ _ _ _ _ _ h
        | exact fun ⟨e1, h⟩ => ⟨e1, h0 _ _ _ _ _ _ h⟩
        | exact fun ⟨e1, e2, h⟩ => ⟨e1, e2, h0 _ _ _ _ _ _ h⟩
        | exact fun ⟨e1, e2, e3, h⟩ => ⟨e1, e2, e3, h0 _ _ _ _ _ _ h⟩
        | exact fun ⟨e1, h⟩ => ⟨fun q => h0 _ _ _ _ _ _ (e1 q), fun q => h0 _ _ _ _ _ _ (h q)⟩
        | exact fun ⟨e1, h⟩ => ⟨e1, hQ _ _ h⟩
        | exact id)
theorem rvMo_12 (hr : rvMonR r1 r2) (hQ : ∀ v s, Q v s → Q2 v s) (h : rvB_12 r1 d i n ls st σ Q a b c tb) : rvB_12 r2 d i n ls st σ Q2 a b c tb := by
  have h0 : ∀ d i n ls st σ, r1 d i n ls st σ Q → r2 d i n ls st σ Q2 := fun d i n ls st σ => hr d i n ls st σ Q Q2 hQ
  revert h; unfold rvB_12
  first
    | exact fun h => h0 _ _ _ _ _ _ h
    | (split <;> first
        | exact fun h => h0 _ _ _ _ _ _ h
        | exact fun ⟨e1, h⟩ => ⟨e1, h0 _ _ _ _ _ _ h⟩
        | exact fun ⟨e1, e2, h⟩ => ⟨e1, e2, h0 _ _ _ _ _ _ h⟩
        | exact fun ⟨e1, e2, e3, h⟩ => ⟨e1, e2, e3, h0 _ _ _ _ _ _ h⟩
        | exact fun ⟨e1, h⟩ => ⟨fun q => h0 _ _ _ _ _ _ (e1 q), fun q => h0 _ _ _ _ _ _ (h q)⟩
        | exact fun ⟨e1, h⟩ => ⟨e1, hQ _ _ h⟩
        | exact id)
theorem rvMo_13 (hr : rvMonR r1 r2) (hQ : ∀ v s, Q v s → Q2 v s) (h : rvB_13 r1 d i n ls st σ Q a b c tb) : rvB_13 r2 d i n ls st σ Q2 a b c tb := by
  have h0 : ∀ d i n ls st σ, r1 d i n ls st σ Q → r2 d i n ls st σ Q2 := fun d i n ls st σ => hr d i n ls st σ Q Q2 hQ
  revert h; unfold rvB_13
  first
    | exact fun h => h0 _ _ _ _ _ _ h
    | (split <;> first
        | exact fun h => h0 _ _ _ _ _ _ h
        | exact fun ⟨e1, h⟩ => ⟨e1, h0 _ _ _ _ _ _ h⟩
        | exact fun ⟨e1, e2, h⟩ => ⟨e1, e2, h0 _ _ _ _ _ _ h⟩
        | exact fun ⟨e1, e2, e3, h⟩ => ⟨e1, e2, e3, h0 _ _ _ _ _ _ h⟩
        | exact fun ⟨e1, h⟩ => ⟨fun q => h0 _ _ _ _ _ _ (e1 q), fun q => h0 _ _ _ _ _ _ (h q)⟩
        | exact fun ⟨e1, h⟩ => ⟨e1, hQ _ _ h⟩
        | exact id)
theorem rvMo_14 (hr : rvMonR r1 r2) (hQ : ∀ v s, Q v s → Q2 v s) (h : rvB_14 r1 d i n ls st σ Q a b c tb) : rvB_14 r2 d i n ls st σ Q2 a b c tb := by
  have h0 : ∀ d i n ls st σ, r1 d i n ls st σ Q → r2 d i n ls st σ Q2 := fun d i n ls st σ => hr d i n ls st σ Q Q2 hQ
  revert h; unfold rvB_14
  first
    | exact fun h => h0 _ _ _ _ _ _ h
    | (split <;> first
        | exact fun h => h0 _ _ _ _ _ _ h
        | exact fun ⟨e1, h⟩ => ⟨e1, h0 _ _ _ _ _ _ h⟩
        | exact fun ⟨e1, e2, h⟩ => ⟨e1, e2, h0 _ _ _ _ _ _ h⟩
        | exact fun ⟨e1, e2, e3, h⟩ => ⟨e1, e2, e3, h0 _ _ _ _ _ _ h⟩
        | exact fun ⟨e1, h⟩ => ⟨fun q => h0 _ _ _ _ _ _ (e1 q), fun q => h0 _ _ _ _ _ _ (h q)⟩
        | exact fun ⟨e1, h⟩ => ⟨e1, hQ _ _ h⟩
        | exact id)
theorem rvMo_15 (hr : rvMonR r1 r2) (hQ : ∀ v s, Q v s → Q2 v s) (h : rvB_15 r1 d i n ls st σ Q a b c tb) : rvB_15 r2 d i n ls st σ Q2 a b c tb := by
  have h0 : ∀ d i n ls st σ, r1 d i n ls st σ Q → r2 d i n ls st σ Q2 := fun d i n ls st σ => hr d i n ls st σ Q Q2 hQ
  revert h; unfold rvB_15
  first
    | exact fun h => h0 _ _ _ _ _ _ h
    | (split <;> first
        | exact fun h => h0 _ _ _ _ _ _ h
        | exact fun ⟨e1, h⟩ => ⟨e1, h0 _ _ _ _ _ _ h⟩
        | exact fun ⟨e1, e2, h⟩ => ⟨e1, e2, h0 _ _ _ _ _ _ h⟩
        | exact fun ⟨e1, e2, e3, h⟩ => ⟨e1, e2, e3, h0 _ _ _ _ _ _ h⟩
        | exact fun ⟨e1, h⟩ => ⟨fun q => h0 _ _ _ _ _ _ (e1 q), fun q => h0 _ _ _ _ _ _ (h q)⟩
        | exact fun ⟨e1, h⟩ => ⟨e1, hQ _ _ h⟩
        | exact id)
theorem rvMo_16 (hr : rvMonR r1 r2) (hQ : ∀ v s, Q v s → Q2 v s) (h : rvB_16 r1 d i n ls st σ Q a b c tb) : rvB_16 r2 d i n ls st σ Q2 a b c tb := by
  have h0 : ∀ d i n ls st σ, r1 d i n ls st σ Q → r2 d i n ls st σ Q2 := fun d i n ls st σ => hr d i n ls st σ Q Q2 hQ
  revert h; unfold rvB_16
  first
    | exact fun h => h0 _ _ _ _ _ _ h
    | (split <;> first
        | exact fun h => h0 _ _ _ _ _ _ h
        | exact fun ⟨e1, h⟩ => ⟨e1, h0 _ _ _ _ _ _ h⟩
        | exact fun ⟨e1, e2, h⟩ => ⟨e1, e2, h0 _ _ _ _ _ _ h⟩
        | exact fun ⟨e1, e2, e3, h⟩ => ⟨e1, e2, e3, h0 _ _ _ _ _ _ h⟩
        | exact fun ⟨e1, h⟩ => ⟨fun q => h0 _ _ _ _ _ _ (e1 q), fun q => h0 _ _ _ _ _ _ (h q)⟩
        | exact fun ⟨e1, h⟩ => ⟨e1, hQ _ _ h⟩
        | exact id)
theorem rvMo_17 (hr : rvMonR r1 r2) (hQ : ∀ v s, Q v s → Q2 v s) (h : rvB_17 r1 d i n ls st σ Q a b c tb) : rvB_17 r2 d i n ls st σ Q2 a b c tb := by
  have h0 : ∀ d i n ls st σ, r1 d i n ls st σ Q → r2 d i n ls st σ Q2 := fun d i n ls st σ => hr d i n ls st σ Q Q2 hQ
  revert h; unfold rvB_17
  first
    | exact fun h => h0 _ _ _ _ _ _ h
    | (split <;> first
        | exact fun h => h0 _ _ _ _ _ _ h
        | exact fun ⟨e1, h⟩ => ⟨e1, h0 _ _ _ _ _ _ h⟩
        | exact fun ⟨e1, e2, h⟩ => ⟨e1, e2, h0 _ _ _ _ _ _ h⟩
        | exact fun ⟨e1, e2, e3, h⟩ => ⟨e1, e2, e3, h0 _ _ _ _ _ _ h⟩
        | exact fun ⟨e1, h⟩ => ⟨fun q => h0 _ _ _ _ _ _ (e1 q), fun q => h0 _ _ _ _ _ _ (h q)⟩
        | exact fun ⟨e1, h⟩ => ⟨e1, hQ _ _ h⟩
        | exact id)
theorem rvMo_18 (hr : rvMonR r1 r2) (hQ : ∀ v s, Q v s → Q2 v s) (h : rvB_18 r1 d i n ls st σ Q a b c tb) : rvB_18 r2 d i n ls st σ Q2 a b c tb := by
  have h0 : ∀ d i n ls st σ, r1 d i n ls st σ Q → r2 d i n ls st σ Q2 := fun d i n ls st σ => hr d i n ls st σ Q Q2 hQ
  revert h; unfold rvB_18
  first
    | exact fun h => h0 _ _ _ _ _ _ h
    | (split <;> first
        | exact fun h => h0 _ _ _ _ _ _ h
        | exact fun ⟨e1, h⟩ => ⟨e1, h0 _ _ _ _ _ _ h⟩
        | exact fun ⟨e1, e2, h⟩ => ⟨e1, e2, h0 _ _ _ _ _ _ h⟩
        | exact fun ⟨e1, e2, e3, h⟩ => ⟨e1, e2, e3, h0 _ _ _ _ _ _ h⟩
        | exact fun ⟨e1, h⟩ => ⟨fun q => h0 _ _ _ _ _ _ (e1 q), fun q => h0 _ _ _ _ _ _ (h q)⟩
        | exact fun ⟨e1, h⟩ => ⟨e1, hQ _ _ h⟩
        | exact id)
theorem rvMo_19 (hr : rvMonR r1 r2) (hQ : ∀ v s, Q v s → Q2 v s) (h : rvB_19 r1 d i n ls st σ Q a b c tb) : rvB_19 r2 d i n ls st σ Q2 a b c tb := by
  have h0 : ∀ d i n ls st σ, r1 d i n ls st σ Q → r2 d i n ls st σ Q2 := fun d i n ls st σ => hr d i n ls st σ Q Q2 hQ
  revert h; unfold rvB_19
  first
    | exact fun h => h0 _ _ _ _ _ _ h
    | (split <;> first
        | exact fun h => h0 _ _ _ _ _ _ h
        | exact fun ⟨e1, h⟩ => ⟨e1, h0 _ _ _ _ _ _ h⟩
        | exact fun ⟨e1, e2, h⟩ => ⟨e1, e2, h0 _ _ _ _ _ _ h⟩
        | exact fun ⟨e1, e2, e3, h⟩ => ⟨e1, e2, e3, h0 _ _ _ _ _ _ h⟩
        | exact fun ⟨e1, h⟩ => ⟨fun q => h0 _ _ _ _ _ _ (e1 q), fun q => h0 _ _ _ _ _ _ (h q)⟩
        | exact fun ⟨e1, h⟩ => ⟨e1, hQ _ _ h⟩
        | exact id)
theorem rvMo_20 (hr : rvMonR r1 r2) (hQ : ∀ v s, Q v s → Q2 v s) (h : rvB_20 r1 d i n ls st σ Q a b c tb) : rvB_20 r2 d i n ls st σ Q2 a b c tb := by
  have h0 : ∀ d i n ls st σ, r1 d i n ls st σ Q → r2 d i n ls st σ Q2 := fun d i n ls st σ => hr d i n ls st σ Q Q2 hQ
  revert h; unfold rvB_20
  first
    | exact fun h => h0 _ _ _ _ _ _ h
    | (split <;> first
        | exact fun h => h0 _ _ _ _ _ _ h
        | exact fun ⟨e1, h⟩ => ⟨e1, h0 _ _ _ _ _ _ h⟩
        | exact fun ⟨e1, e2, h⟩ => ⟨e1, e2, h0 _ _ _ _ _ _ h⟩
        | exact fun ⟨e1, e2, e3, h⟩ => ⟨e1, e2, e3, h0 _ _ _ _ _ _ h⟩
        | exact fun ⟨e1, h⟩ => ⟨fun q => h0 _ _ _ _ _ _ (e1 q), fun q => h0 _ _ _ _ _ _ (h q)⟩
        | exact fun ⟨e1, h⟩ => ⟨e1, hQ _ _ h⟩
        | exact id)
theorem rvMo_21 (hr : rvMonR r1 r2) (hQ : ∀ v s, Q v s → Q2 v s) (h : rvB_21 r1 d i n ls st σ Q a b c tb) : rvB_21 r2 d i n ls st σ Q2 a b c tb := by
  have h0 : ∀ d i n ls st σ, r1 d i n ls st σ Q → r2 d i n ls st σ Q2 := fun d i n ls st σ => hr d i n ls st σ Q Q2 hQ
  revert h; unfold rvB_21
  first
    | exact fun h => h0 _ _ _ _ _ _ h
    | (split <;> first
        | exact fun h => h0 _ _ _ _ _ _ h
        | exact fun ⟨e1, h⟩ => ⟨e1, h0 _ _ _ _ _ _ h⟩
        | exact fun ⟨e1, e2, h⟩ => ⟨e1, e2, h0 _ _ _ _ _ _ h⟩
        | exact fun ⟨e1, e2, e3, h⟩ => ⟨e1, e2, e3, h0 _ _ _ _ _ _ h⟩
        | exact fun ⟨e1, h⟩ => ⟨fun q => h0 _ _ _ _ _ _ (e1 q), fun q => h0 _ _ _ _ _ _ (h q)⟩
        | exact fun ⟨e1, h⟩ => ⟨e1, hQ _ _ h⟩
        | exact id)
theorem rvMo_22 (hr : rvMonR r1 r2) (hQ : ∀ v s, Q v s → Q2 v s) (h : rvB_22 r1 d i n ls st σ Q a b c tb) : rvB_22 r2 d i n ls st σ Q2 a b c tb := by
  have h0 : ∀ d i n ls st σ, r1 d i n ls st σ Q → r2 d i n ls st σ Q2 := fun d i n ls st σ => hr d i n ls st σ Q Q2 hQ
  revert h; unfold rvB_22
  split
  · exact fun ⟨e, h⟩ => ⟨fun q => h0 _ _ _ _ _ _ (e q), fun q => (h q).imp fun t h2 => ⟨h2.1, h0 _ _ _ _ _ _ h2.2⟩⟩
  · exact id
theorem rvMo_23 (hr : rvMonR r1 r2) (hQ : ∀ v s, Q v s → Q2 v s) (h : rvB_23 r1 d i n ls st σ Q a b c tb) : rvB_23 r2 d i n ls st σ Q2 a b c tb := by
  have h0 : ∀ d i n ls st σ, r1 d i n ls st σ Q → r2 d i n ls st σ Q2 := fun d i n ls st σ => hr d i n ls st σ Q Q2 hQ
  revert h; unfold rvB_23
  split
  · exact id
  · exact fun ⟨e, h⟩ => ⟨e, hr _ _ _ _ _ _ _ _ (fun v s h2 => h0 _ _ _ _ _ _ h2) h⟩
theorem rvMo_24 (hr : rvMonR r1 r2) (hQ : ∀ v s, Q v s → Q2 v s) (h : rvB_24 r1 d i n ls st σ Q a b c tb) : rvB_24 r2 d i n ls st σ Q2 a b c tb := by
  have h0 : ∀ d i n ls st σ, r1 d i n ls st σ Q → r2 d i n ls st σ Q2 := fun d i n ls st σ => hr d i n ls st σ Q Q2 hQ
  revert h; unfold rvB_24
  first
    | exact fun h => h0 _ _ _ _ _ _ h
    | (split <;> first
        | exact fun h => h0 _ _ _ _ _ _ h
        | exact fun ⟨e1, h⟩ => ⟨e1, h0 _ _ _ _ _ _ h⟩
        | exact fun ⟨e1, e2, h⟩ => ⟨e1, e2, h0 _ _ _ _ _ _ h⟩
        | exact fun ⟨e1, e2, e3, h⟩ => ⟨e1, e2, e3, h0 _ _ _ _ _ _ h⟩
        | exact fun ⟨e1, h⟩ => ⟨fun q => h0 _ _ _ _ _ _ (e1 q), fun q => h0 _ _ _ _ _ _ (h q)⟩
        | exact fun ⟨e1, h⟩ => ⟨e1, hQ _ _ h⟩
        | exact id)
theorem rvMo_25 (hr : rvMonR r1 r2) (hQ : ∀ v s, Q v s → Q2 v s) (h : rvB_25 r1 d i n ls st σ Q a b c tb) : rvB_25 r2 d i n ls st σ Q2 a b c tb := by
  have h0 : ∀ d i n ls st σ, r1 d i n ls st σ Q → r2 d i n ls st σ Q2 := fun d i n ls st σ => hr d i n ls st σ Q Q2 hQ
  revert h; unfold rvB_25
  first
    | exact fun h => h0 _ _ _ _ _ _ h
    | (split <;> first
        | exact fun h => h0 _ _ _ _ _ _ h
        | exact fun ⟨e1, h⟩ => ⟨e1, h0 _ _ _ _ _ _ h⟩
        | exact fun ⟨e1, e2, h⟩ => ⟨e1, e2, h0 _ _ _ _ _ _ h⟩
        | exact fun ⟨e1, e2, e3, h⟩ => ⟨e1, e2, e3, h0 _ _ _ _ _ _ h⟩
        | exact fun ⟨e1, h⟩ => ⟨fun q => h0 _ _ _ _ _ _ (e1 q), fun q => h0 _ _ _ _ _ _ (h q)⟩
        | exact fun ⟨e1, h⟩ => ⟨e1, hQ _ _ h⟩
        | exact id)
theorem rvMo_26 (hr : rvMonR r1 r2) (hQ : ∀ v s, Q v s → Q2 v s) (h : rvB_26 r1 d i n ls st σ Q a b c tb) : rvB_26 r2 d i n ls st σ Q2 a b c tb := by
  have h0 : ∀ d i n ls st σ, r1 d i n ls st σ Q → r2 d i n ls st σ Q2 := fun d i n ls st σ => hr d i n ls st σ Q Q2 hQ
  revert h; unfold rvB_26
  first
    | exact fun h => h0 _ _ _ _ _ _ h
    | (split <;> first
        | exact fun h => h0 _ _ _ _ _ _ h
        | exact fun ⟨e1, h⟩ => ⟨e1, h0 _ _ _ _ _ _ h⟩
        | exact fun ⟨e1, e2, h⟩ => ⟨e1, e2, h0 _ _ _ _ _ _ h⟩
        | exact fun ⟨e1, e2, e3, h⟩ => ⟨e1, e2, e3, h0 _ _ _ _ _ _ h⟩
        | exact fun ⟨e1, h⟩ => ⟨fun q => h0 _ _ _ _ _ _ (e1 q), fun q => h0 _ _ _ _ _ _ (h q)⟩
        | exact fun ⟨e1, h⟩ => ⟨e1, hQ _ _ h⟩
        | exact id)
theorem rvMo_27 (hr : rvMonR r1 r2) (hQ : ∀ v s, Q v s → Q2 v s) (h : rvB_27 r1 d i n ls st σ Q a b c tb) : rvB_27 r2 d i n ls st σ Q2 a b c tb := by
  have h0 : ∀ d i n ls st σ, r1 d i n ls st σ Q → r2 d i n ls st σ Q2 := fun d i n ls st σ => hr d i n ls st σ Q Q2 hQ
  revert h; unfold rvB_27
  first
    | exact fun h => h0 _ _ _ _ _ _ h
    | (split <;> first
        | exact fun h => h0 _ _ _ _ _ _ h
        | exact fun ⟨e1, h⟩ => ⟨e1, h0 _ _ _ _ _ _ h⟩
        | exact fun ⟨e1, e2, h⟩ => ⟨e1, e2, h0 _ _ _ _ _ _ h⟩
        | exact fun ⟨e1, e2, e3, h⟩ => ⟨e1, e2, e3, h0 _ _ _ _ _ _ h⟩
        | exact fun ⟨e1, h⟩ => ⟨fun q => h0 _ _ _ _ _ _ (e1 q), fun q => h0 _ _ _ _ _ _ (h q)⟩
        | exact fun ⟨e1, h⟩ => ⟨e1, hQ _ _ h⟩
        | exact id)
theorem rvMo_28 (hr : rvMonR r1 r2) (hQ : ∀ v s, Q v s → Q2 v s) (h : rvB_28 r1 d i n ls st σ Q a b c tb) : rvB_28 r2 d i n ls st σ Q2 a b c tb := by
  have h0 : ∀ d i n ls st σ, r1 d i n ls st σ Q → r2 d i n ls st σ Q2 := fun d i n ls st σ => hr d i n ls st σ Q Q2 hQ
  revert h; unfold rvB_28
  refine fun ⟨e, h⟩ => ⟨e, ?_⟩
  revert h
  split <;> first | exact fun ⟨e1, h⟩ => ⟨e1, h0 _ _ _ _ _ _ h⟩ | exact fun ⟨e1, e2, h⟩ => ⟨e1, e2, h0 _ _ _ _ _ _ h⟩ | exact fun ⟨e1, e2, e3, h⟩ => ⟨e1, e2, e3, h0 _ _ _ _ _ _ h⟩ | exact id
theorem rvMo_29 (hr : rvMonR r1 r2) (hQ : ∀ v s, Q v s → Q2 v s) (h : rvB_29 r1 d i n ls st σ Q a b c tb) : rvB_29 r2 d i n ls st σ Q2 a b c tb := by
  have h0 : ∀ d i n ls st σ, r1 d i n ls st σ Q → r2 d i n ls st σ Q2 := fun d i n ls st σ => hr d i n ls st σ Q Q2 hQ
  revert h; unfold rvB_29
  first
    | exact fun h => h0 _ _ _ _ _ _ h
    | (split <;> first
        | exact fun h => h0 _ _ _ _ _ _ h
        | exact fun ⟨e1, h⟩ => ⟨e1, h0 _ _ _ _ _ _ h⟩
        | exact fun ⟨e1, e2, h⟩ => ⟨e1, e2, h0 _ _ _ _ _ _ h⟩
        | exact fun ⟨e1, e2, e3, h⟩ => ⟨e1, e2, e3, h0 _ _ _ _ _ _ h⟩
        | exact fun ⟨e1, h⟩ => ⟨fun q => h0 _ _ _ _ _ _ (e1 q), fun q => h0 _ _ _ _ _ _ (h q)⟩
        | exact fun ⟨e1, h⟩ => ⟨e1, hQ _ _ h⟩
        | exact id)
theorem rvMo_30 (hr : rvMonR r1 r2) (hQ : ∀ v s, Q v s → Q2 v s) (h : rvB_30 r1 d i n ls st σ Q a b c tb) : rvB_30 r2 d i n ls st σ Q2 a b c tb := by
  have h0 : ∀ d i n ls st σ, r1 d i n ls st σ Q → r2 d i n ls st σ Q2 := fun d i n ls st σ => hr d i n ls st σ Q Q2 hQ
  revert h; unfold rvB_30
  first
    | exact fun h => h0 _ _ _ _ _ _ h
    | (split <;> first
        | exact fun h => h0 _ _ _ _ _ _ h
        | exact fun ⟨e1, h⟩ => ⟨e1, h0 _ _ _ _ _ _ h⟩
        | exact fun ⟨e1, e2, h⟩ => ⟨e1, e2, h0 _ _ _ _ _ _ h⟩
        | exact fun ⟨e1, e2, e3, h⟩ => ⟨e1, e2, e3, h0 _ _ _ _ _ _ h⟩
        | exact fun ⟨e1, h⟩ => ⟨fun q => h0 _ _ _ _ _ _ (e1 q), fun q => h0 _ _ _ _ _ _ (h q)⟩
        | exact fun ⟨e1, h⟩ => ⟨e1, hQ _ _ h⟩
        | exact id)
theorem rvMo_33 (hr : rvMonR r1 r2) (hQ : ∀ v s, Q v s → Q2 v s) (h : rvB_33 r1 d i n ls st σ Q a b c tb) : rvB_33 r2 d i n ls st σ Q2 a b c tb := by
  have h0 : ∀ d i n ls st σ, r1 d i n ls st σ Q → r2 d i n ls st σ Q2 := fun d i n ls st σ => hr d i n ls st σ Q Q2 hQ
  revert h; unfold rvB_33
  first
    | exact fun h => h0 _ _ _ _ _ _ h
    | (split <;> first
        | exact fun h => h0 _ _ _ _ _ _ h
        | exact fun ⟨e1, h⟩ => ⟨e1, h0 _ _ _ _ _ _ h⟩
        | exact fun ⟨e1, e2, h⟩ => ⟨e1, e2, h0 _ _ _ _ _ _ h⟩
        | exact fun ⟨e1, e2, e3, h⟩ => ⟨e1, e2, e3, h0 _ _ _ _ _ _ h⟩
        | exact fun ⟨e1, h⟩ => ⟨fun q => h0 _ _ _ _ _ _ (e1 q), fun q => h0 _ _ _ _ _ _ (h q)⟩
        | exact fun ⟨e1, h⟩ => ⟨e1, hQ _ _ h⟩
        | exact id)
theorem rvMo_34 (hr : rvMonR r1 r2) (hQ : ∀ v s, Q v s → Q2 v s) (h : rvB_34 r1 d i n ls st σ Q a b c tb) : rvB_34 r2 d i n ls st σ Q2 a b c tb := by
  have h0 : ∀ d i n ls st σ, r1 d i n ls st σ Q → r2 d i n ls st σ Q2 := fun d i n ls st σ => hr d i n ls st σ Q Q2 hQ
  revert h; unfold rvB_34
  first
    | exact fun h => h0 _ _ _ _ _ _ h
    | (split <;> first
        | exact fun h => h0 _ _ _ _ _ _ h
        | exact fun ⟨e1, h⟩ => ⟨e1, h0 _ _ _ _ _ _ h⟩
        | exact fun ⟨e1, e2, h⟩ => ⟨e1, e2, h0 _ _ _ _ _ _ h⟩
        | exact fun ⟨e1, e2, e3, h⟩ => ⟨e1, e2, e3, h0 _ _ _ _ _ _ h⟩
        | exact fun ⟨e1, h⟩ => ⟨fun q => h0 _ _ _ _ _ _ (e1 q), fun q => h0 _ _ _ _ _ _ (h q)⟩
        | exact fun ⟨e1, h⟩ => ⟨e1, hQ _ _ h⟩
        | exact id)
end RvMono
set_option maxHeartbeats 4000000 in
theorem rvBody_mono {r1 r2 : rvR} (hr : rvMonR r1 r2) (d i n : Nat) (ls : rvL) (st : List rvV) (σ : rvS) (Q Q2 : Option rvV → rvS → Prop) (hQ : ∀ v s, Q v s → Q2 v s) (o : Option rvI) :
    rvBody r1 d i n ls st σ Q o → rvBody r2 d i n ls st σ Q2 o := by
  unfold rvBody
  split
  · exact id
  · split
    · exact rvMo_0 hr hQ
    · exact rvMo_1 hr hQ
    · exact rvMo_2 hr hQ
    · exact rvMo_3 hr hQ
    · exact rvMo_4 hr hQ
    · exact rvMo_5 hr hQ
    · exact rvMo_6 hr hQ
    · exact rvMo_7 hr hQ
    · exact rvMo_8 hr hQ
    · exact rvMo_9 hr hQ
    · exact rvMo_10 hr hQ
    · exact rvMo_11 hr hQ
    · exact rvMo_12 hr hQ
    · exact rvMo_13 hr hQ
    · exact rvMo_14 hr hQ
    · exact rvMo_15 hr hQ
    · exact rvMo_16 hr hQ
    · exact rvMo_17 hr hQ
    · exact rvMo_18 hr hQ
    · exact rvMo_19 hr hQ
    · exact rvMo_20 hr hQ
    · exact rvMo_21 hr hQ
    · exact rvMo_22 hr hQ
    · exact rvMo_23 hr hQ
    · exact rvMo_24 hr hQ
    · exact rvMo_25 hr hQ
    · exact rvMo_26 hr hQ
    · exact rvMo_27 hr hQ
    · exact rvMo_28 hr hQ
    · exact rvMo_29 hr hQ
    · exact rvMo_30 hr hQ
    · exact rvMo_33 hr hQ
    · exact rvMo_34 hr hQ
    · exact id
theorem rvWp_mono1 : ∀ (F : Nat), rvMonR (rvWp F) (rvWp (F + 1))
  | 0 => fun _ _ _ _ _ _ _ _ _ h => h.elim
  | F + 1 => fun d i n ls st σ Q Q2 hQ h => rvBody_mono (rvWp_mono1 F) d i n ls st σ Q Q2 hQ _ h
theorem rvWp_same : ∀ (F : Nat), rvMonR (rvWp F) (rvWp F)
  | 0 => fun _ _ _ _ _ _ _ _ _ h => h.elim
  | F + 1 => fun d i n ls st σ Q Q2 hQ h => rvBody_mono (rvWp_same F) d i n ls st σ Q Q2 hQ _ h
theorem rvWp_mono {F F2 : Nat} (hF : F ≤ F2) : ∀ {d i n ls st σ} {Q Q2 : Option rvV → rvS → Prop}, (∀ v s, Q v s → Q2 v s) → rvWp F d i n ls st σ Q → rvWp F2 d i n ls st σ Q2 := by
  obtain ⟨k, rfl⟩ := Nat.exists_eq_add_of_le hF
  induction k with
  | zero =>
    intro d i n ls st σ Q Q2 hQ h
    exact rvWp_same F d i n ls st σ Q Q2 hQ h
  | succ k ih =>
    intro d i n ls st σ Q Q2 hQ h
    exact rvWp_mono1 (F + k) d i n ls st σ Q Q2 hQ (ih (Nat.le_add_right _ _) (fun _ _ h => h) h)
