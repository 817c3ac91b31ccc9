-- walking: one plain instruction, many, a branch, a call; an answer with what it leaves
abbrev zC : Type := Nat × zL × List zV × zS
def zN_0 (n : Nat) (ls : zL) (st : List zV) (σ : zS) (a b c : Nat) (tb : List Nat) : Option zC := some (n + 1, ls, .inl (zW (rvZ a b)) :: st, σ)
def zN_1 (n : Nat) (ls : zL) (st : List zV) (σ : zS) (a b c : Nat) (tb : List Nat) : Option zC := some (n + 1, ls, .inr (.inl (zWl (rvZ a b))) :: st, σ)
def zN_2 (n : Nat) (ls : zL) (st : List zV) (σ : zS) (a b c : Nat) (tb : List Nat) : Option zC := match ls[a]?, b with
  | some (some (.inl v)), 0 => some (n + 1, ls, .inl v :: st, σ)
  | some (some (.inr (.inl v))), 1 => some (n + 1, ls, .inr (.inl v) :: st, σ)
  | some (some (.inr (.inr v))), 2 => some (n + 1, ls, .inr (.inr v) :: st, σ)
  | _, _ => none
def zN_3 (n : Nat) (ls : zL) (st : List zV) (σ : zS) (a b c : Nat) (tb : List Nat) : Option zC := match st, b with
  | .inl v :: r, 0 => some (n + 1, (zSt1 ls a (.inl v)), r, σ)
  | .inr (.inl v) :: r, 1 => some (n + 1, (zSt2 ls a (.inr (.inl v))), r, σ)
  | .inr (.inr v) :: r, 2 => some (n + 1, (zSt1 ls a (.inr (.inr v))), r, σ)
  | _, _ => none
def zN_4 (n : Nat) (ls : zL) (st : List zV) (σ : zS) (a b c : Nat) (tb : List Nat) : Option zC := match ls[a]? with
  | some (some (.inl v)) => some (n + 1, (zSt1 ls a (.inl (zW (v + rvZ b c)))), st, σ)
  | _ => none
def zN_5 (n : Nat) (ls : zL) (st : List zV) (σ : zS) (a b c : Nat) (tb : List Nat) : Option zC := match st with
  | .inl y :: .inl v :: r => if zBinOk a y = true then some (n + 1, ls, .inl (zBin a v y) :: r, σ) else none
  | _ => none
def zN_6 (n : Nat) (ls : zL) (st : List zV) (σ : zS) (a b c : Nat) (tb : List Nat) : Option zC := match st with
  | .inr (.inl y) :: .inr (.inl v) :: r => if zLBinOk a y = true then some (n + 1, ls, .inr (.inl (zLBin a v y)) :: r, σ) else none
  | _ => none
def zN_7 (n : Nat) (ls : zL) (st : List zV) (σ : zS) (a b c : Nat) (tb : List Nat) : Option zC := match st with
  | .inl y :: .inr (.inl v) :: r => some (n + 1, ls, .inr (.inl (zLSh a v y)) :: r, σ)
  | _ => none
def zN_8 (n : Nat) (ls : zL) (st : List zV) (σ : zS) (a b c : Nat) (tb : List Nat) : Option zC := match st, a with
  | .inl v :: r, 0 => some (n + 1, ls, .inl (zW (-v)) :: r, σ)
  | .inl v :: r, 1 => some (n + 1, ls, .inr (.inl v) :: r, σ)
  | .inr (.inl v) :: r, 2 => some (n + 1, ls, .inl (zW v) :: r, σ)
  | .inl v :: r, 3 => some (n + 1, ls, .inl ((v + 128) % 256 - 128) :: r, σ)
  | .inl v :: r, 4 => some (n + 1, ls, .inl ((v + 32768) % 65536 - 32768) :: r, σ)
  | _, _ => none
def zN_9 (n : Nat) (ls : zL) (st : List zV) (σ : zS) (a b c : Nat) (tb : List Nat) : Option zC := match st with
  | .inr (.inl y) :: .inr (.inl v) :: r => some (n + 1, ls, .inl (if y < v then 1 else if v = y then 0 else -1) :: r, σ)
  | _ => none
def zN_10 (n : Nat) (ls : zL) (st : List zV) (σ : zS) (a b c : Nat) (tb : List Nat) : Option zC := match st with
  | .inr (.inr (k, h)) :: r => if k = a then (match rvFt a b with
    | 0 => some (n + 1, ls, .inl (σ.1 a h b) :: r, σ)
    | 1 => some (n + 1, ls, .inl (σ.1 a h b) :: r, σ)
    | 2 => some (n + 1, ls, .inr (.inr (rvTg a h b)) :: r, σ)
    | _ => none) else none
  | _ => none
def zN_11 (n : Nat) (ls : zL) (st : List zV) (σ : zS) (a b c : Nat) (tb : List Nat) : Option zC := match st with
  | .inl v :: .inr (.inr (k, h)) :: r => if k = a ∧ zFld (rvFt a b) v = true then some (n + 1, ls, r, (zU σ a h b v)) else none
  | _ => none
def zN_12 (n : Nat) (ls : zL) (st : List zV) (σ : zS) (a b c : Nat) (tb : List Nat) : Option zC := match st, a with
  | .inl v :: .inr (.inr (k, h)) :: r, 1 => if ((rvK k).1 = 1 ∨ (rvK k).1 = 11) ∧ zIn v (zLen σ k h) = true then some (n + 1, ls, .inl (σ.1 k h v.toNat) :: r, σ) else none
  | .inl v :: .inr (.inr (k, h)) :: r, 2 => if (rvK k).1 = 2 ∧ zIn v (zLen σ k h) = true then some (n + 1, ls, .inr (.inl (σ.2 k h v.toNat)) :: r, σ) else none
  | .inl v :: .inr (.inr (k, h)) :: r, 3 => if (rvK k).1 = 3 ∧ zIn v (zLen σ k h) = true then some (n + 1, ls, .inl (σ.1 k h v.toNat) :: r, σ) else none
  | .inl v :: .inr (.inr (k, h)) :: r, 4 => if (rvK k).1 = 4 ∧ zIn v (zLen σ k h) = true then some (n + 1, ls, .inl (σ.1 k h v.toNat) :: r, σ) else none
  | .inl v :: .inr (.inr (k, h)) :: r, 5 => if (5 ≤ (rvK k).1 ∧ (rvK k).1 ≤ 10) ∧ zIn v (zLen σ k h) = true then some (n + 1, ls, .inr (.inr (rvTg k h v.toNat)) :: r, σ) else none
  | _, _ => none
def zN_13 (n : Nat) (ls : zL) (st : List zV) (σ : zS) (a b c : Nat) (tb : List Nat) : Option zC := match st, a with
  | .inl y :: .inl v :: .inr (.inr (k, h)) :: r, 1 => if (rvK k).1 = 1 ∧ zIn v (zLen σ k h) = true then some (n + 1, ls, r, (zU σ k h v.toNat y)) else none
  | .inr (.inl y) :: .inl v :: .inr (.inr (k, h)) :: r, 2 => if (rvK k).1 = 2 ∧ zIn v (zLen σ k h) = true then some (n + 1, ls, r, (zUL σ k h v.toNat y)) else none
  | .inl y :: .inl v :: .inr (.inr (k, h)) :: r, 3 => if (rvK k).1 = 3 ∧ zIn v (zLen σ k h) = true then some (n + 1, ls, r, (zU σ k h v.toNat ((y + 128) % 256 - 128))) else none
  | .inl y :: .inl v :: .inr (.inr (k, h)) :: r, 4 => if (rvK k).1 = 4 ∧ zIn v (zLen σ k h) = true ∧ (y = 0 ∨ y = 1) then some (n + 1, ls, r, (zU σ k h v.toNat y)) else none
  | _, _ => none
def zN_14 (n : Nat) (ls : zL) (st : List zV) (σ : zS) (a b c : Nat) (tb : List Nat) : Option zC := match st with
  | .inr (.inr (k, h)) :: r => if 1 ≤ (rvK k).1 ∧ (rvK k).1 ≤ 11 then some (n + 1, ls, .inl (zW (zLen σ k h : Int)) :: r, σ) else none
  | _ => none
def zN_15 (n : Nat) (ls : zL) (st : List zV) (σ : zS) (a b c : Nat) (tb : List Nat) : Option zC := match st with
  | .inl v :: r => some (n + 1, ls, .inl v :: .inl v :: r, σ)
  | .inr (.inr v) :: r => some (n + 1, ls, .inr (.inr v) :: .inr (.inr v) :: r, σ)
  | _ => none
def zN_16 (n : Nat) (ls : zL) (st : List zV) (σ : zS) (a b c : Nat) (tb : List Nat) : Option zC := match st with
  | .inl v :: .inl y :: r => some (n + 1, ls, .inl v :: .inl y :: .inl v :: r, σ)
  | .inl v :: .inr (.inr y) :: r => some (n + 1, ls, .inl v :: .inr (.inr y) :: .inl v :: r, σ)
  | _ => none
def zN_17 (n : Nat) (ls : zL) (st : List zV) (σ : zS) (a b c : Nat) (tb : List Nat) : Option zC := match st with
  | .inl v :: .inr (.inr y) :: r => some (n + 1, ls, .inl v :: .inr (.inr y) :: .inl v :: .inr (.inr y) :: r, σ)
  | _ => none
def zN_18 (n : Nat) (ls : zL) (st : List zV) (σ : zS) (a b c : Nat) (tb : List Nat) : Option zC := match st with
  | .inl _ :: r => some (n + 1, ls, r, σ)
  | _ => none
def zN_19 (n : Nat) (ls : zL) (st : List zV) (σ : zS) (a b c : Nat) (tb : List Nat) : Option zC := match st with
  | .inl v :: r => if zC1 a v = true then some (b, ls, r, σ) else some (n + 1, ls, r, σ)
  | _ => none
def zN_20 (n : Nat) (ls : zL) (st : List zV) (σ : zS) (a b c : Nat) (tb : List Nat) : Option zC := match st with
  | .inl y :: .inl v :: r => if zC2 a v y = true then some (b, ls, r, σ) else some (n + 1, ls, r, σ)
  | _ => none
def zN_21 (n : Nat) (ls : zL) (st : List zV) (σ : zS) (a b c : Nat) (tb : List Nat) : Option zC := some (b, ls, st, σ)
def zN_22 (n : Nat) (ls : zL) (st : List zV) (σ : zS) (a b c : Nat) (tb : List Nat) : Option zC := match st with
  | .inl v :: r => if v < (a : Int) - 1000 ∨ (c : Int) - 1000 < v then some (b, ls, r, σ) else (match tb[(v - ((a : Int) - 1000)).toNat]? with
    | some t => some (t, ls, r, σ)
    | none => none)
  | _ => none
def zN_29 (n : Nat) (ls : zL) (st : List zV) (σ : zS) (a b c : Nat) (tb : List Nat) : Option zC := some (n + 1, ls, .inr (.inr (105, 0)) :: st, σ)
def zN_30 (n : Nat) (ls : zL) (st : List zV) (σ : zS) (a b c : Nat) (tb : List Nat) : Option zC := some (n + 1, ls, .inr (.inr (106, a)) :: st, σ)
def zN_33 (n : Nat) (ls : zL) (st : List zV) (σ : zS) (a b c : Nat) (tb : List Nat) : Option zC := match st with
  | .inl v :: .inr (.inr (k, _)) :: r => if k = 105 ∧ zIn v 6 = true then some (n + 1, ls, .inl (rvUn.getD v.toNat 0).toInt :: r, σ) else none
  | _ => none
def zN_34 (n : Nat) (ls : zL) (st : List zV) (σ : zS) (a b c : Nat) (tb : List Nat) : Option zC := match st with
  | .inr (.inr (k, _)) :: r => if k = 105 then some (n + 1, ls, .inl 6 :: r, σ) else none
  | _ => none
def zNx (n : Nat) (ls : zL) (st : List zV) (σ : zS) (o : Option rvI) : Option zC := match o with
  | none => none
  | some (_, op, a, b, c, tb) => match op with
    | 0 => zN_0 n ls st σ a b c tb
    | 1 => zN_1 n ls st σ a b c tb
    | 2 => zN_2 n ls st σ a b c tb
    | 3 => zN_3 n ls st σ a b c tb
    | 4 => zN_4 n ls st σ a b c tb
    | 5 => zN_5 n ls st σ a b c tb
    | 6 => zN_6 n ls st σ a b c tb
    | 7 => zN_7 n ls st σ a b c tb
    | 8 => zN_8 n ls st σ a b c tb
    | 9 => zN_9 n ls st σ a b c tb
    | 10 => zN_10 n ls st σ a b c tb
    | 11 => zN_11 n ls st σ a b c tb
    | 12 => zN_12 n ls st σ a b c tb
    | 13 => zN_13 n ls st σ a b c tb
    | 14 => zN_14 n ls st σ a b c tb
    | 15 => zN_15 n ls st σ a b c tb
    | 16 => zN_16 n ls st σ a b c tb
    | 17 => zN_17 n ls st σ a b c tb
    | 18 => zN_18 n ls st σ a b c tb
    | 19 => zN_19 n ls st σ a b c tb
    | 20 => zN_20 n ls st σ a b c tb
    | 21 => zN_21 n ls st σ a b c tb
    | 22 => zN_22 n ls st σ a b c tb
    | 29 => zN_29 n ls st σ a b c tb
    | 30 => zN_30 n ls st σ a b c tb
    | 33 => zN_33 n ls st σ a b c tb
    | 34 => zN_34 n ls st σ a b c tb
    | _ => none
theorem zNok_0 {rec : zR} {d i n : Nat} {ls : zL} {st : List zV} {σ : zS} {a b c : Nat} {tb : List Nat} {y : zC} (h : zN_0 n ls st σ a b c tb = some y) : zB_0 rec d i n ls st σ a b c tb = rec d i y.1 y.2.1 y.2.2.1 y.2.2.2 := by
  revert h; unfold zN_0 zB_0
  intro h; cases h; rfl
theorem zNok_1 {rec : zR} {d i n : Nat} {ls : zL} {st : List zV} {σ : zS} {a b c : Nat} {tb : List Nat} {y : zC} (h : zN_1 n ls st σ a b c tb = some y) : zB_1 rec d i n ls st σ a b c tb = rec d i y.1 y.2.1 y.2.2.1 y.2.2.2 := by
  revert h; unfold zN_1 zB_1
  intro h; cases h; rfl
theorem zNok_2 {rec : zR} {d i n : Nat} {ls : zL} {st : List zV} {σ : zS} {a b c : Nat} {tb : List Nat} {y : zC} (h : zN_2 n ls st σ a b c tb = some y) : zB_2 rec d i n ls st σ a b c tb = rec d i y.1 y.2.1 y.2.2.1 y.2.2.2 := by
  unfold zN_2 at h; unfold zB_2
  repeat' split at h
  all_goals first | (cases h; done) | (cases h; simp_all)
theorem zNok_3 {rec : zR} {d i n : Nat} {ls : zL} {st : List zV} {σ : zS} {a b c : Nat} {tb : List Nat} {y : zC} (h : zN_3 n ls st σ a b c tb = some y) : zB_3 rec d i n ls st σ a b c tb = rec d i y.1 y.2.1 y.2.2.1 y.2.2.2 := by
  unfold zN_3 at h; unfold zB_3
  repeat' split at h
  all_goals first | (cases h; done) | (cases h; simp_all)
theorem zNok_4 {rec : zR} {d i n : Nat} {ls : zL} {st : List zV} {σ : zS} {a b c : Nat} {tb : List Nat} {y : zC} (h : zN_4 n ls st σ a b c tb = some y) : zB_4 rec d i n ls st σ a b c tb = rec d i y.1 y.2.1 y.2.2.1 y.2.2.2 := by
  unfold zN_4 at h; unfold zB_4
  repeat' split at h
  all_goals first | (cases h; done) | (cases h; simp_all)
theorem zNok_5 {rec : zR} {d i n : Nat} {ls : zL} {st : List zV} {σ : zS} {a b c : Nat} {tb : List Nat} {y : zC} (h : zN_5 n ls st σ a b c tb = some y) : zB_5 rec d i n ls st σ a b c tb = rec d i y.1 y.2.1 y.2.2.1 y.2.2.2 := by
  unfold zN_5 at h; unfold zB_5
  repeat' split at h
  all_goals first | (cases h; done) | (cases h; simp_all)
theorem zNok_6 {rec : zR} {d i n : Nat} {ls : zL} {st : List zV} {σ : zS} {a b c : Nat} {tb : List Nat} {y : zC} (h : zN_6 n ls st σ a b c tb = some y) : zB_6 rec d i n ls st σ a b c tb = rec d i y.1 y.2.1 y.2.2.1 y.2.2.2 := by
  unfold zN_6 at h; unfold zB_6
  repeat' split at h
  all_goals first | (cases h; done) | (cases h; simp_all)
theorem zNok_7 {rec : zR} {d i n : Nat} {ls : zL} {st : List zV} {σ : zS} {a b c : Nat} {tb : List Nat} {y : zC} (h : zN_7 n ls st σ a b c tb = some y) : zB_7 rec d i n ls st σ a b c tb = rec d i y.1 y.2.1 y.2.2.1 y.2.2.2 := by
  unfold zN_7 at h; unfold zB_7
  repeat' split at h
  all_goals first | (cases h; done) | (cases h; simp_all)
theorem zNok_8 {rec : zR} {d i n : Nat} {ls : zL} {st : List zV} {σ : zS} {a b c : Nat} {tb : List Nat} {y : zC} (h : zN_8 n ls st σ a b c tb = some y) : zB_8 rec d i n ls st σ a b c tb = rec d i y.1 y.2.1 y.2.2.1 y.2.2.2 := by
  unfold zN_8 at h; unfold zB_8
  repeat' split at h
  all_goals first | (cases h; done) | (cases h; simp_all)
theorem zNok_9 {rec : zR} {d i n : Nat} {ls : zL} {st : List zV} {σ : zS} {a b c : Nat} {tb : List Nat} {y : zC} (h : zN_9 n ls st σ a b c tb = some y) : zB_9 rec d i n ls st σ a b c tb = rec d i y.1 y.2.1 y.2.2.1 y.2.2.2 := by
  unfold zN_9 at h; unfold zB_9
  split at h
  · cases h; rfl
  · cases h
theorem zNok_10 {rec : zR} {d i n : Nat} {ls : zL} {st : List zV} {σ : zS} {a b c : Nat} {tb : List Nat} {y : zC} (h : zN_10 n ls st σ a b c tb = some y) : zB_10 rec d i n ls st σ a b c tb = rec d i y.1 y.2.1 y.2.2.1 y.2.2.2 := by
  unfold zN_10 at h; unfold zB_10
  repeat' split at h
  all_goals first | (cases h; done) | (cases h; simp_all)
theorem zNok_11 {rec : zR} {d i n : Nat} {ls : zL} {st : List zV} {σ : zS} {a b c : Nat} {tb : List Nat} {y : zC} (h : zN_11 n ls st σ a b c tb = some y) : zB_11 rec d i n ls st σ a b c tb = rec d i y.1 y.2.1 y.2.2.1 y.2.2.2 := by
  unfold zN_11 at h; unfold zB_11
  repeat' split at h
  all_goals first | (cases h; done) | (cases h; simp_all)
theorem zNok_12 {rec : zR} {d i n : Nat} {ls : zL} {st : List zV} {σ : zS} {a b c : Nat} {tb : List Nat} {y : zC} (h : zN_12 n ls st σ a b c tb = some y) : zB_12 rec d i n ls st σ a b c tb = rec d i y.1 y.2.1 y.2.2.1 y.2.2.2 := by
  unfold zN_12 at h; unfold zB_12
  repeat' split at h
  all_goals first | (cases h; done) | (cases h; simp_all)
theorem zNok_13 {rec : zR} {d i n : Nat} {ls : zL} {st : List zV} {σ : zS} {a b c : Nat} {tb : List Nat} {y : zC} (h : zN_13 n ls st σ a b c tb = some y) : zB_13 rec d i n ls st σ a b c tb = rec d i y.1 y.2.1 y.2.2.1 y.2.2.2 := by
  unfold zN_13 at h; unfold zB_13
  repeat' split at h
  all_goals first | (cases h; done) | (cases h; simp_all)
theorem zNok_14 {rec : zR} {d i n : Nat} {ls : zL} {st : List zV} {σ : zS} {a b c : Nat} {tb : List Nat} {y : zC} (h : zN_14 n ls st σ a b c tb = some y) : zB_14 rec d i n ls st σ a b c tb = rec d i y.1 y.2.1 y.2.2.1 y.2.2.2 := by
  unfold zN_14 at h; unfold zB_14
  repeat' split at h
  all_goals first | (cases h; done) | (cases h; simp_all)
theorem zNok_15 {rec : zR} {d i n : Nat} {ls : zL} {st : List zV} {σ : zS} {a b c : Nat} {tb : List Nat} {y : zC} (h : zN_15 n ls st σ a b c tb = some y) : zB_15 rec d i n ls st σ a b c tb = rec d i y.1 y.2.1 y.2.2.1 y.2.2.2 := by
  unfold zN_15 at h; unfold zB_15
  repeat' split at h
  all_goals first | (cases h; done) | (cases h; simp_all)
theorem zNok_16 {rec : zR} {d i n : Nat} {ls : zL} {st : List zV} {σ : zS} {a b c : Nat} {tb : List Nat} {y : zC} (h : zN_16 n ls st σ a b c tb = some y) : zB_16 rec d i n ls st σ a b c tb = rec d i y.1 y.2.1 y.2.2.1 y.2.2.2 := by
  unfold zN_16 at h; unfold zB_16
  repeat' split at h
  all_goals first | (cases h; done) | (cases h; simp_all)
theorem zNok_17 {rec : zR} {d i n : Nat} {ls : zL} {st : List zV} {σ : zS} {a b c : Nat} {tb : List Nat} {y : zC} (h : zN_17 n ls st σ a b c tb = some y) : zB_17 rec d i n ls st σ a b c tb = rec d i y.1 y.2.1 y.2.2.1 y.2.2.2 := by
  unfold zN_17 at h; unfold zB_17
  repeat' split at h
  all_goals first | (cases h; done) | (cases h; simp_all)
theorem zNok_18 {rec : zR} {d i n : Nat} {ls : zL} {st : List zV} {σ : zS} {a b c : Nat} {tb : List Nat} {y : zC} (h : zN_18 n ls st σ a b c tb = some y) : zB_18 rec d i n ls st σ a b c tb = rec d i y.1 y.2.1 y.2.2.1 y.2.2.2 := by
  unfold zN_18 at h; unfold zB_18
  repeat' split at h
  all_goals first | (cases h; done) | (cases h; simp_all)
theorem zNok_19 {rec : zR} {d i n : Nat} {ls : zL} {st : List zV} {σ : zS} {a b c : Nat} {tb : List Nat} {y : zC} (h : zN_19 n ls st σ a b c tb = some y) : zB_19 rec d i n ls st σ a b c tb = rec d i y.1 y.2.1 y.2.2.1 y.2.2.2 := by
  unfold zN_19 at h; unfold zB_19
  repeat' split at h
  all_goals first | (cases h; done) | (cases h; simp_all)
theorem zNok_20 {rec : zR} {d i n : Nat} {ls : zL} {st : List zV} {σ : zS} {a b c : Nat} {tb : List Nat} {y : zC} (h : zN_20 n ls st σ a b c tb = some y) : zB_20 rec d i n ls st σ a b c tb = rec d i y.1 y.2.1 y.2.2.1 y.2.2.2 := by
  unfold zN_20 at h; unfold zB_20
  repeat' split at h
  all_goals first | (cases h; done) | (cases h; simp_all)
theorem zNok_21 {rec : zR} {d i n : Nat} {ls : zL} {st : List zV} {σ : zS} {a b c : Nat} {tb : List Nat} {y : zC} (h : zN_21 n ls st σ a b c tb = some y) : zB_21 rec d i n ls st σ a b c tb = rec d i y.1 y.2.1 y.2.2.1 y.2.2.2 := by
  revert h; unfold zN_21 zB_21
  intro h; cases h; rfl
theorem zNok_22 {rec : zR} {d i n : Nat} {ls : zL} {st : List zV} {σ : zS} {a b c : Nat} {tb : List Nat} {y : zC} (h : zN_22 n ls st σ a b c tb = some y) : zB_22 rec d i n ls st σ a b c tb = rec d i y.1 y.2.1 y.2.2.1 y.2.2.2 := by
  unfold zN_22 at h; unfold zB_22
  match st, h with
  | .inl v :: r, h =>
    replace h : (if v < (a : Int) - 1000 ∨ (c : Int) - 1000 < v then some (b, ls, r, σ) else (match tb[(v - ((a : Int) - 1000)).toNat]? with
      | some t => some (t, ls, r, σ)
      | none => none)) = some y := h
    show (if v < (a : Int) - 1000 ∨ (c : Int) - 1000 < v then rec d i b ls r σ else (match tb[(v - ((a : Int) - 1000)).toNat]? with
      | some t => rec d i t ls r σ
      | none => none)) = _
    by_cases hk : v < (a : Int) - 1000 ∨ (c : Int) - 1000 < v
    · rw [if_pos hk] at h ⊢; cases h; rfl
    · rw [if_neg hk] at h ⊢
      generalize tb[(v - ((a : Int) - 1000)).toNat]? = o at h
      match o, h with
      | some t, h => cases h; rfl
      | none, h => exact zNo h
  | [], h => exact zNo h
  | .inr (.inl v) :: r, h => exact zNo h
  | .inr (.inr v) :: r, h => exact zNo h
theorem zNok_29 {rec : zR} {d i n : Nat} {ls : zL} {st : List zV} {σ : zS} {a b c : Nat} {tb : List Nat} {y : zC} (h : zN_29 n ls st σ a b c tb = some y) : zB_29 rec d i n ls st σ a b c tb = rec d i y.1 y.2.1 y.2.2.1 y.2.2.2 := by
  revert h; unfold zN_29 zB_29
  intro h; cases h; rfl
theorem zNok_30 {rec : zR} {d i n : Nat} {ls : zL} {st : List zV} {σ : zS} {a b c : Nat} {tb : List Nat} {y : zC} (h : zN_30 n ls st σ a b c tb = some y) : zB_30 rec d i n ls st σ a b c tb = rec d i y.1 y.2.1 y.2.2.1 y.2.2.2 := by
  revert h; unfold zN_30 zB_30
  intro h; cases h; rfl
theorem zNok_33 {rec : zR} {d i n : Nat} {ls : zL} {st : List zV} {σ : zS} {a b c : Nat} {tb : List Nat} {y : zC} (h : zN_33 n ls st σ a b c tb = some y) : zB_33 rec d i n ls st σ a b c tb = rec d i y.1 y.2.1 y.2.2.1 y.2.2.2 := by
  unfold zN_33 at h; unfold zB_33
  repeat' split at h
  all_goals first | (cases h; done) | (cases h; simp_all)
theorem zNok_34 {rec : zR} {d i n : Nat} {ls : zL} {st : List zV} {σ : zS} {a b c : Nat} {tb : List Nat} {y : zC} (h : zN_34 n ls st σ a b c tb = some y) : zB_34 rec d i n ls st σ a b c tb = rec d i y.1 y.2.1 y.2.2.1 y.2.2.2 := by
  unfold zN_34 at h; unfold zB_34
  repeat' split at h
  all_goals first | (cases h; done) | (cases h; simp_all)
theorem zNx_ok {rec : zR} {d i n : Nat} {ls : zL} {st : List zV} {σ : zS} {o : Option rvI} {y : zC} (h : zNx n ls st σ o = some y) : zBody rec d i n ls st σ o = rec d i y.1 y.2.1 y.2.2.1 y.2.2.2 := by
  match o, h with
  | none, h => exact zNo h
  | some (pc, op, a, b, c, tb), h =>
    match op, h with
    | 0, h => exact zNok_0 (n := n) (ls := ls) (st := st) (σ := σ) (a := a) (b := b) (c := c) (tb := tb) h
    | 1, h => exact zNok_1 (n := n) (ls := ls) (st := st) (σ := σ) (a := a) (b := b) (c := c) (tb := tb) h
    | 2, h => exact zNok_2 (n := n) (ls := ls) (st := st) (σ := σ) (a := a) (b := b) (c := c) (tb := tb) h
    | 3, h => exact zNok_3 (n := n) (ls := ls) (st := st) (σ := σ) (a := a) (b := b) (c := c) (tb := tb) h
    | 4, h => exact zNok_4 (n := n) (ls := ls) (st := st) (σ := σ) (a := a) (b := b) (c := c) (tb := tb) h
    | 5, h => exact zNok_5 (n := n) (ls := ls) (st := st) (σ := σ) (a := a) (b := b) (c := c) (tb := tb) h
    | 6, h => exact zNok_6 (n := n) (ls := ls) (st := st) (σ := σ) (a := a) (b := b) (c := c) (tb := tb) h
    | 7, h => exact zNok_7 (n := n) (ls := ls) (st := st) (σ := σ) (a := a) (b := b) (c := c) (tb := tb) h
    | 8, h => exact zNok_8 (n := n) (ls := ls) (st := st) (σ := σ) (a := a) (b := b) (c := c) (tb := tb) h
    | 9, h => exact zNok_9 (n := n) (ls := ls) (st := st) (σ := σ) (a := a) (b := b) (c := c) (tb := tb) h
    | 10, h => exact zNok_10 (n := n) (ls := ls) (st := st) (σ := σ) (a := a) (b := b) (c := c) (tb := tb) h
    | 11, h => exact zNok_11 (n := n) (ls := ls) (st := st) (σ := σ) (a := a) (b := b) (c := c) (tb := tb) h
    | 12, h => exact zNok_12 (n := n) (ls := ls) (st := st) (σ := σ) (a := a) (b := b) (c := c) (tb := tb) h
    | 13, h => exact zNok_13 (n := n) (ls := ls) (st := st) (σ := σ) (a := a) (b := b) (c := c) (tb := tb) h
    | 14, h => exact zNok_14 (n := n) (ls := ls) (st := st) (σ := σ) (a := a) (b := b) (c := c) (tb := tb) h
    | 15, h => exact zNok_15 (n := n) (ls := ls) (st := st) (σ := σ) (a := a) (b := b) (c := c) (tb := tb) h
    | 16, h => exact zNok_16 (n := n) (ls := ls) (st := st) (σ := σ) (a := a) (b := b) (c := c) (tb := tb) h
    | 17, h => exact zNok_17 (n := n) (ls := ls) (st := st) (σ := σ) (a := a) (b := b) (c := c) (tb := tb) h
    | 18, h => exact zNok_18 (n := n) (ls := ls) (st := st) (σ := σ) (a := a) (b := b) (c := c) (tb := tb) h
    | 19, h => exact zNok_19 (n := n) (ls := ls) (st := st) (σ := σ) (a := a) (b := b) (c := c) (tb := tb) h
    | 20, h => exact zNok_20 (n := n) (ls := ls) (st := st) (σ := σ) (a := a) (b := b) (c := c) (tb := tb) h
    | 21, h => exact zNok_21 (n := n) (ls := ls) (st := st) (σ := σ) (a := a) (b := b) (c := c) (tb := tb) h
    | 22, h => exact zNok_22 (n := n) (ls := ls) (st := st) (σ := σ) (a := a) (b := b) (c := c) (tb := tb) h
    | 23, h => exact zNo h
    | 24, h => exact zNo h
    | 25, h => exact zNo h
    | 26, h => exact zNo h
    | 27, h => exact zNo h
    | 28, h => exact zNo h
    | 29, h => exact zNok_29 (n := n) (ls := ls) (st := st) (σ := σ) (a := a) (b := b) (c := c) (tb := tb) h
    | 30, h => exact zNok_30 (n := n) (ls := ls) (st := st) (σ := σ) (a := a) (b := b) (c := c) (tb := tb) h
    | 31, h => exact zNo h
    | 32, h => exact zNo h
    | 33, h => exact zNok_33 (n := n) (ls := ls) (st := st) (σ := σ) (a := a) (b := b) (c := c) (tb := tb) h
    | 34, h => exact zNok_34 (n := n) (ls := ls) (st := st) (σ := σ) (a := a) (b := b) (c := c) (tb := tb) h
    | op + 35, h => exact zNo h
/-- from here the method answers, and what it answers and leaves is so -/
def zX (d i n : Nat) (ls : zL) (st : List zV) (σ : zS) (Q : Option zV → zS → Prop) : Prop := ∃ F r s, zEv F d i n ls st σ = some (r, s) ∧ Q r s
theorem zX_one {d i n : Nat} {ls : zL} {st : List zV} {σ : zS} {Q : Option zV → zS → Prop} {n' : Nat} {ls' : zL} {st' : List zV} {σ' : zS} (h : zNx n ls st σ ((rvCode i)[n]?) = some (n', ls', st', σ')) (k : zX d i n' ls' st' σ' Q) : zX d i n ls st σ Q := by
  obtain ⟨F, r, s, h1, h2⟩ := k
  exact ⟨F + 1, r, s, by show zBody (zEv F) d i n ls st σ ((rvCode i)[n]?) = _; rw [zNx_ok h]; exact h1, h2⟩
def zRn (i : Nat) : Nat → zC → Option zC
  | 0, y => some y
  | k + 1, (n, ls, st, σ) => match zNx n ls st σ ((rvCode i)[n]?) with
    | some y => zRn i k y
    | none => none
theorem zX_run {d i n : Nat} {ls : zL} {st : List zV} {σ : zS} {Q : Option zV → zS → Prop} {n' : Nat} {ls' : zL} {st' : List zV} {σ' : zS} : ∀ (k : Nat), zRn i k (n, ls, st, σ) = some (n', ls', st', σ') → zX d i n' ls' st' σ' Q → zX d i n ls st σ Q := by
  intro k
  induction k generalizing n ls st σ with
  | zero => intro h kk; cases h; exact kk
  | succ k ih =>
    intro h kk
    unfold zRn at h
    split at h
    · rename_i y hy
      obtain ⟨n2, l2, s2, g2⟩ := y
      exact zX_one hy (ih h kk)
    · exact zNo h
/-- an instruction that asks something -/
theorem zX_ask {d i n : Nat} {ls : zL} {st : List zV} {σ : zS} {Q : Option zV → zS → Prop} {n' : Nat} {ls' : zL} {st' : List zV} {σ' : zS} {q : Prop} [Decidable q] (h : zNx n ls st σ ((rvCode i)[n]?) = if q then some (n', ls', st', σ') else none) (hq : q) (k : zX d i n' ls' st' σ' Q) : zX d i n ls st σ Q :=
  zX_one (by rw [h, if_pos hq]) k
theorem zX_if {d i n : Nat} {ls : zL} {st : List zV} {σ : zS} {Q : Option zV → zS → Prop} {n1 n2 : Nat} {l1 l2 : zL} {s1 s2 : List zV} {g1 g2 : zS} {q : Prop} [Decidable q] (h : zNx n ls st σ ((rvCode i)[n]?) = if q then some (n1, l1, s1, g1) else some (n2, l2, s2, g2)) (k1 : q → zX d i n1 l1 s1 g1 Q) (k2 : ¬ q → zX d i n2 l2 s2 g2 Q) : zX d i n ls st σ Q := by
  by_cases hq : q
  · exact zX_one (by rw [h, if_pos hq]) (k1 hq)
  · exact zX_one (by rw [h, if_neg hq]) (k2 hq)
theorem zX_mono {d i n : Nat} {ls : zL} {st : List zV} {σ : zS} {Q Q2 : Option zV → zS → Prop} (h : zX d i n ls st σ Q) (hQ : ∀ r s, Q r s → Q2 r s) : zX d i n ls st σ Q2 := by
  obtain ⟨F, r, s, h1, h2⟩ := h
  exact ⟨F, r, s, h1, hQ _ _ h2⟩
theorem zX_and {d i n : Nat} {ls : zL} {st : List zV} {σ : zS} {Q Q2 : Option zV → zS → Prop} (h : zX d i n ls st σ Q) (h2 : zX d i n ls st σ Q2) : zX d i n ls st σ (fun r s => Q r s ∧ Q2 r s) := by
  obtain ⟨F, r, s, h1, q1⟩ := h
  obtain ⟨F2, r2, s2, h3, q2⟩ := h2
  have e1 := zEv_le (Nat.le_max_left F F2) _ _ _ _ _ _ _ h1
  have e2 := zEv_le (Nat.le_max_right F F2) _ _ _ _ _ _ _ h3
  rw [e1] at e2
  cases e2
  exact ⟨_, r, s, e1, q1, q2⟩
/-- a method, from its entry -/
def zM (d i : Nat) (as : List zV) (σ : zS) (Q : Option zV → zS → Prop) : Prop := zX d i 0 (zEntry i as) [] σ Q
def zCk (a b : Nat) (tb : List Nat) (st : List zV) : Bool := Nat.ble b st.length && (Nat.ble (zCat (st.drop b)) 8 && ((match tb with
  | [0] => zRcv a (st.take b).reverse
  | _ => true) && Nat.ble (zArgs (st.take b).reverse).length (rvM a).2.2.1))
theorem zX_call {d i n pc a b c : Nat} {tb : List Nat} {ls : zL} {st : List zV} {σ : zS} {Q : Option zV → zS → Prop} (hf : (rvCode i)[n]? = some (pc, 23, a, b, c, tb)) (hq : zCk a b tb st = true)
    (k : zM d a (st.take b).reverse σ (fun v s => zX (d + 1) i (n + 1) ls (v.toList ++ st.drop b) s Q)) : zX (d + 1) i n ls st σ Q := by
  obtain ⟨F, v, s, h1, F2, r2, s2, h2, h3⟩ := k
  have hq2 : b ≤ st.length ∧ zCat (st.drop b) ≤ 8 ∧ (tb = [0] → zRcv a (st.take b).reverse = true) ∧ (zArgs (st.take b).reverse).length ≤ (rvM a).2.2.1 := by
    simp only [zCk, Bool.and_eq_true] at hq
    refine ⟨Nat.le_of_ble_eq_true hq.1, Nat.le_of_ble_eq_true hq.2.1, fun e => ?_, Nat.le_of_ble_eq_true hq.2.2.2⟩
    subst e
    exact hq.2.2.1
  refine ⟨max F F2 + 1, r2, s2, ?_, h3⟩
  show zBody (zEv (max F F2)) (d + 1) i n ls st σ ((rvCode i)[n]?) = _
  rw [hf]
  show zB_23 (zEv (max F F2)) (d + 1) i n ls st σ a b c tb = _
  unfold zB_23
  dsimp only
  rw [if_pos hq2, zEv_le (Nat.le_max_left F F2) _ _ _ _ _ _ _ h1]
  exact zEv_le (Nat.le_max_right F F2) _ _ _ _ _ _ _ h2
theorem zX_ret0 {d i n pc a b c : Nat} {tb : List Nat} {ls : zL} {σ : zS} {Q : Option zV → zS → Prop} (hf : (rvCode i)[n]? = some (pc, 24, a, b, c, tb)) (hr : (rvM i).2.2.2.1 = none) (k : Q none σ) : zX d i n ls [] σ Q := by
  refine ⟨1, none, σ, ?_, k⟩
  show zBody (zEv 0) d i n ls [] σ ((rvCode i)[n]?) = _
  rw [hf]
  show zB_24 (zEv 0) d i n ls [] σ a b c tb = _
  unfold zB_24
  exact if_pos hr
theorem zX_ret {d i n pc a b c : Nat} {tb : List Nat} {ls : zL} {v : Int} {σ : zS} {Q : Option zV → zS → Prop} (hf : (rvCode i)[n]? = some (pc, 25, a, b, c, tb)) (hr : zRet (rvM i).2.2.2.1 v = true) (k : Q (some (.inl v)) σ) : zX d i n ls [.inl v] σ Q := by
  refine ⟨1, some (.inl v), σ, ?_, k⟩
  show zBody (zEv 0) d i n ls [.inl v] σ ((rvCode i)[n]?) = _
  rw [hf]
  show zB_25 (zEv 0) d i n ls [.inl v] σ a b c tb = _
  unfold zB_25
  exact if_pos hr
theorem zX_retL {d i n pc a b c : Nat} {tb : List Nat} {ls : zL} {v : Int} {σ : zS} {Q : Option zV → zS → Prop} (hf : (rvCode i)[n]? = some (pc, 26, a, b, c, tb)) (hr : (rvM i).2.2.2.1 = some .long) (k : Q (some (.inr (.inl v))) σ) : zX d i n ls [.inr (.inl v)] σ Q := by
  refine ⟨1, some (.inr (.inl v)), σ, ?_, k⟩
  show zBody (zEv 0) d i n ls [.inr (.inl v)] σ ((rvCode i)[n]?) = _
  rw [hf]
  show zB_26 (zEv 0) d i n ls [.inr (.inl v)] σ a b c tb = _
  unfold zB_26
  exact if_pos hr
theorem zX_retR {d i n pc a b c : Nat} {tb : List Nat} {ls : zL} {v : Nat × Nat} {σ : zS} {Q : Option zV → zS → Prop} (hf : (rvCode i)[n]? = some (pc, 27, a, b, c, tb)) (hr : zObj (rvM i).2.2.2.1 = true) (k : Q (some (.inr (.inr v))) σ) : zX d i n ls [.inr (.inr v)] σ Q := by
  refine ⟨1, some (.inr (.inr v)), σ, ?_, k⟩
  show zBody (zEv 0) d i n ls [.inr (.inr v)] σ ((rvCode i)[n]?) = _
  rw [hf]
  show zB_27 (zEv 0) d i n ls [.inr (.inr v)] σ a b c tb = _
  unfold zB_27
  exact if_pos hr
theorem zW_id {z : Int} (h : -2147483648 ≤ z ∧ z ≤ 2147483647) : zW z = z := by unfold zW; omega
theorem zWl_id {z : Int} (h : -9223372036854775808 ≤ z ∧ z ≤ 9223372036854775807) : zWl z = z := by unfold zWl; omega
theorem zQ_i {Q : Option zV → zS → Prop} {v w : Int} {σ : zS} (h : Q (some (.inl v)) σ) (e : w = v) : Q (some (.inl w)) σ := e ▸ h
theorem zQ_l {Q : Option zV → zS → Prop} {v w : Int} {σ : zS} (h : Q (some (.inr (.inl v))) σ) (e : w = v) : Q (some (.inr (.inl w))) σ := e ▸ h
