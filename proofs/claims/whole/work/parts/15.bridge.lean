-- what the small machine over whole numbers answers, the small machine answers
def zT : rvV → zV
  | .inl v => .inl v.toInt
  | .inr (.inl v) => .inr (.inl v.toInt)
  | .inr (.inr q) => .inr (.inr q)
def zTl (als : rvL) : zL := als.map (Option.map zT)
def zSg (σ : rvS) : zS := (fun k n j => (σ.1 k n j).toInt, fun k n j => (σ.2 k n j).toInt)
theorem zW_bmod (z : Int) : zW z = z.bmod (2 ^ 32) := by
  unfold zW
  rw [Int.bmod_def]
  split <;> omega
theorem zWl_bmod (z : Int) : zWl z = z.bmod (2 ^ 64) := by
  unfold zWl
  rw [Int.bmod_def]
  split <;> omega
theorem zT_N32 (a b : Nat) : (rvN32 a b).toInt = zW (rvZ a b) := by
  rw [zW_bmod]
  cases b with
  | zero => show (Int32.ofNat a).toInt = Int.bmod (a : Int) (2 ^ 32); rw [← Int32.ofInt_eq_ofNat, Int32.toInt_ofInt]
  | succ b => show (-(Int32.ofNat a)).toInt = Int.bmod (-(a : Int)) (2 ^ 32); rw [Int32.neg_ofNat, Int32.toInt_ofInt]
theorem zT_N64 (a b : Nat) : (rvN64 a b).toInt = zWl (rvZ a b) := by
  rw [zWl_bmod]
  cases b with
  | zero => show (Int64.ofNat a).toInt = Int.bmod (a : Int) (2 ^ 64); rw [← Int64.ofInt_eq_ofNat, Int64.toInt_ofInt]
  | succ b => show (-(Int64.ofNat a)).toInt = Int.bmod (-(a : Int)) (2 ^ 64); rw [Int64.neg_ofNat, Int64.toInt_ofInt]
theorem zT_bin (a : Nat) (v y : Int32) : (rvBin a v y).toInt = zBin a v.toInt y.toInt := by
  match a with
  | 0 => show (v + y).toInt = zW _; rw [Int32.toInt_add, zW_bmod]
  | 1 => show (v - y).toInt = zW _; rw [Int32.toInt_sub, zW_bmod]
  | 2 => show (v * y).toInt = zW _; rw [Int32.toInt_mul, zW_bmod]
  | 3 => show _ = (rvBin 3 _ _).toInt; rw [Int32.ofInt_toInt, Int32.ofInt_toInt]
  | 4 => show _ = (rvBin 4 _ _).toInt; rw [Int32.ofInt_toInt, Int32.ofInt_toInt]
  | 5 => show _ = (rvBin 5 _ _).toInt; rw [Int32.ofInt_toInt, Int32.ofInt_toInt]
  | 6 => show _ = (rvBin 6 _ _).toInt; rw [Int32.ofInt_toInt, Int32.ofInt_toInt]
  | 7 => show _ = (rvBin 7 _ _).toInt; rw [Int32.ofInt_toInt, Int32.ofInt_toInt]
  | 8 => show (v / y).toInt = zW _; rw [Int32.toInt_div, zW_bmod]
  | 9 => show (v - v / y * y).toInt = zW (v.toInt - zW (zW (v.toInt.tdiv y.toInt) * y.toInt)); rw [Int32.toInt_sub, Int32.toInt_mul, Int32.toInt_div, zW_bmod, zW_bmod, zW_bmod]
  | a + 10 => show _ = (rvBin (a + 10) _ _).toInt; rw [Int32.ofInt_toInt, Int32.ofInt_toInt]
theorem zT_lbin (a : Nat) (v y : Int64) : (rvLBin a v y).toInt = zLBin a v.toInt y.toInt := by
  match a with
  | 0 => show (v + y).toInt = zWl _; rw [Int64.toInt_add, zWl_bmod]
  | 1 => show (v - y).toInt = zWl _; rw [Int64.toInt_sub, zWl_bmod]
  | 2 => show (v * y).toInt = zWl _; rw [Int64.toInt_mul, zWl_bmod]
  | 3 => show (v &&& y).toInt = (Int64.ofInt v.toInt &&& Int64.ofInt y.toInt).toInt; rw [Int64.ofInt_toInt, Int64.ofInt_toInt]
  | 4 => show (v ||| y).toInt = (Int64.ofInt v.toInt ||| Int64.ofInt y.toInt).toInt; rw [Int64.ofInt_toInt, Int64.ofInt_toInt]
  | a + 5 => show (v / y).toInt = zWl _; rw [Int64.toInt_div, zWl_bmod]
theorem zT_lsh (a : Nat) (v : Int64) (y : Int32) : (rvLSh a v y).toInt = zLSh a v.toInt y.toInt := by
  unfold zLSh
  rw [Int64.ofInt_toInt, Int32.ofInt_toInt]
theorem zT_c1 (a : Nat) (v : Int32) : zC1 a v.toInt = true ↔ rvC1 a v := by
  have h0 : (0 : Int32).toInt = 0 := rfl
  have e0 : v = 0 ↔ v.toInt = 0 := by rw [← Int32.toInt_inj, h0]
  match a with
  | 0 => simp only [zC1, rvC1, decide_eq_true_eq, e0]
  | 1 => simp only [zC1, rvC1, decide_eq_true_eq, e0]
  | 2 => simp only [zC1, rvC1, decide_eq_true_eq, Int32.lt_iff_toInt_lt, h0]
  | 3 => simp only [zC1, rvC1, decide_eq_true_eq, Int32.le_iff_toInt_le, h0]
  | 4 => simp only [zC1, rvC1, decide_eq_true_eq, Int32.lt_iff_toInt_lt, h0]
  | a + 5 => simp only [zC1, rvC1, decide_eq_true_eq, Int32.le_iff_toInt_le, h0]
theorem zT_c2 (a : Nat) (v y : Int32) : zC2 a v.toInt y.toInt = true ↔ rvC2 a v y := by
  match a with
  | 0 => simp only [zC2, rvC2, decide_eq_true_eq, Int32.toInt_inj]
  | 1 => simp only [zC2, rvC2, decide_eq_true_eq, Int32.toInt_inj]
  | 2 => simp only [zC2, rvC2, decide_eq_true_eq, Int32.lt_iff_toInt_lt]
  | 3 => simp only [zC2, rvC2, decide_eq_true_eq, Int32.le_iff_toInt_le]
  | 4 => simp only [zC2, rvC2, decide_eq_true_eq, Int32.lt_iff_toInt_lt]
  | a + 5 => simp only [zC2, rvC2, decide_eq_true_eq, Int32.le_iff_toInt_le]
theorem zT_0 (v : Int32) : v.toInt = 0 ↔ v = 0 := by
  rw [← Int32.toInt_inj]; rfl
theorem zT_1 (v : Int32) : v.toInt = 1 ↔ v = 1 := by
  rw [← Int32.toInt_inj]; rfl
theorem zT_0l (v : Int64) : v.toInt = 0 ↔ v = 0 := by
  rw [← Int64.toInt_inj]; rfl
theorem zT_kill (o : Option rvV) : zKill (o.map zT) = (rvKill o).map zT := by
  match o with
  | none => rfl
  | some (.inl v) => rfl
  | some (.inr (.inl v)) => rfl
  | some (.inr (.inr v)) => rfl
theorem zT_st1 : ∀ (als : rvL) (i : Nat) (v : rvV), zSt1 (zTl als) i (zT v) = zTl (rvSt1 als i v)
  | [], _, _ => rfl
  | y :: r, 0, v => rfl
  | y :: r, 1, v => by
    show zKill (y.map zT) :: zSt1 (zTl r) 0 (zT v) = (rvKill y).map zT :: zTl (rvSt1 r 0 v)
    rw [zT_kill, zT_st1 r 0 v]
  | y :: r, i + 2, v => by
    show y.map zT :: zSt1 (zTl r) (i + 1) (zT v) = y.map zT :: zTl (rvSt1 r (i + 1) v)
    rw [zT_st1 r (i + 1) v]
theorem zT_st2 : ∀ (als : rvL) (i : Nat) (v : rvV), zSt2 (zTl als) i (zT v) = zTl (rvSt2 als i v)
  | [], 0, _ => rfl
  | [], 1, _ => rfl
  | [], i + 2, _ => rfl
  | [y], 0, v => rfl
  | y :: z :: r, 0, v => rfl
  | [y], 1, v => by
    show [zKill (y.map zT)] = [(rvKill y).map zT]
    rw [zT_kill]
  | y :: z :: r, 1, v => by
    show zKill (y.map zT) :: zSt2 (zTl (z :: r)) 0 (zT v) = (rvKill y).map zT :: zTl (rvSt2 (z :: r) 0 v)
    rw [zT_kill, zT_st2 (z :: r) 0 v]
  | [y], i + 2, v => by
    show y.map zT :: zSt2 (zTl []) (i + 1) (zT v) = y.map zT :: zTl (rvSt2 [] (i + 1) v)
    rw [zT_st2 [] (i + 1) v]
  | y :: z :: r, i + 2, v => by
    show y.map zT :: zSt2 (zTl (z :: r)) (i + 1) (zT v) = y.map zT :: zTl (rvSt2 (z :: r) (i + 1) v)
    rw [zT_st2 (z :: r) (i + 1) v]
theorem zT_cat : ∀ (st : List rvV), zCat (st.map zT) = rvCat st
  | [] => rfl
  | .inl v :: r => by show 1 + zCat (r.map zT) = 1 + rvCat r; rw [zT_cat r]
  | .inr (.inl v) :: r => by show 2 + zCat (r.map zT) = 2 + rvCat r; rw [zT_cat r]
  | .inr (.inr v) :: r => by show 1 + zCat (r.map zT) = 1 + rvCat r; rw [zT_cat r]
theorem zT_args : ∀ (as : List rvV), zArgs (as.map zT) = zTl (rvArgs as)
  | [] => rfl
  | .inl v :: r => by show some (.inl v.toInt) :: zArgs (r.map zT) = some (.inl v.toInt) :: zTl (rvArgs r); rw [zT_args r]
  | .inr (.inl v) :: r => by show some (.inr (.inl v.toInt)) :: none :: zArgs (r.map zT) = some (.inr (.inl v.toInt)) :: none :: zTl (rvArgs r); rw [zT_args r]
  | .inr (.inr v) :: r => by show some (.inr (.inr v)) :: zArgs (r.map zT) = some (.inr (.inr v)) :: zTl (rvArgs r); rw [zT_args r]
theorem zTl_len (als : rvL) : (zTl als).length = als.length := List.length_map _
theorem zT_entry (i : Nat) (as : List rvV) : zEntry i (as.map zT) = zTl (rvEntry i as) := by
  unfold zEntry rvEntry
  rw [zT_args, zTl_len]
  show _ = List.map (Option.map zT) (rvArgs as ++ List.replicate _ none)
  rw [List.map_append, List.map_replicate]
  rfl
theorem zT_len (σ : rvS) (k n : Nat) : zLen (zSg σ) k n = rvLen σ k n := rfl
theorem zT_U (σ : rvS) (k n j : Nat) (v : Int32) : zU (zSg σ) k n j v.toInt = zSg (rvU σ k n j v) := by
  unfold zU zSg rvU
  congr 1
  funext k' n' j'
  by_cases h : k' = k ∧ n' = n ∧ j' = j
  · dsimp only; rw [if_pos ⟨h.1, h.2.2, h.2.1⟩, if_pos h]
  · dsimp only; rw [if_neg (fun q => h ⟨q.1, q.2.2, q.2.1⟩), if_neg h]
theorem zT_UL (σ : rvS) (k n j : Nat) (v : Int64) : zUL (zSg σ) k n j v.toInt = zSg (rvUL σ k n j v) := by
  unfold zUL zSg rvUL
  congr 1
  funext k' n' j'
  by_cases h : k' = k ∧ n' = n ∧ j' = j
  · dsimp only; rw [if_pos ⟨h.1, h.2.2, h.2.1⟩, if_pos h]
  · dsimp only; rw [if_neg (fun q => h ⟨q.1, q.2.2, q.2.1⟩), if_neg h]
theorem zT_Cp (σ : rvS) (k n i k2 n2 j m : Nat) : zCp (zSg σ) k n i k2 n2 j m = zSg (rvCp σ k n i k2 n2 j m) := by
  unfold zCp zSg rvCp
  congr 1
  funext k' n' j'
  by_cases h : k' = k2 ∧ n' = n2 ∧ j ≤ j' ∧ j' < j + m
  · dsimp only; rw [if_pos h, if_pos h]
  · dsimp only; rw [if_neg h, if_neg h]
theorem zT_get {als : rvL} {a : Nat} {o : Option zV} (h : (zTl als)[a]? = some o) : ∃ o', als[a]? = some o' ∧ o'.map zT = o := by
  unfold zTl at h
  rw [List.getElem?_map] at h
  cases ha : als[a]? with
  | none => rw [ha] at h; cases h
  | some o' => rw [ha] at h; exact ⟨o', rfl, Option.some.inj h⟩
theorem zIn_of {v : Int} {n : Nat} (h : zIn v n = true) : 0 ≤ v ∧ v < (n : Int) := of_decide_eq_true h
theorem zNo {α : Type} {v : α} {P : Prop} (h : none = some v) : P := by cases h
def zH (F : Nat) : Prop := ∀ (d i n : Nat) (als : rvL) (ast : List rvV) (σ : rvS) (r : Option zV) (s : zS), zEv F d i n (zTl als) (ast.map zT) (zSg σ) = some (r, s) → ∀ Q : Option rvV → rvS → Prop, (∀ r' s', r'.map zT = r → zSg s' = s → Q r' s') → rvWp F d i n als ast σ Q
section ZBr
variable {F d i n a b c : Nat} {tb : List Nat} {als : rvL} {ast : List rvV} {σ : rvS} {r : Option zV} {s : zS} {Q : Option rvV → rvS → Prop}
theorem zR_0 (hF : zH F) (hQ : ∀ r' s', r'.map zT = r → zSg s' = s → Q r' s') (h : zB_0 (zEv F) d i n (zTl als) (ast.map zT) (zSg σ) a b c tb = some (r, s)) : rvB_0 (rvWp F) d i n als ast σ Q a b c tb :=
  hF d i (n + 1) als (.inl (rvN32 a b) :: ast) σ r s (by rw [List.map_cons]; show zEv F d i (n + 1) (zTl als) (.inl (rvN32 a b).toInt :: ast.map zT) (zSg σ) = _; rw [zT_N32]; exact h) Q hQ
theorem zR_1 (hF : zH F) (hQ : ∀ r' s', r'.map zT = r → zSg s' = s → Q r' s') (h : zB_1 (zEv F) d i n (zTl als) (ast.map zT) (zSg σ) a b c tb = some (r, s)) : rvB_1 (rvWp F) d i n als ast σ Q a b c tb :=
  hF d i (n + 1) als (.inr (.inl (rvN64 a b)) :: ast) σ r s (by rw [List.map_cons]; show zEv F d i (n + 1) (zTl als) (.inr (.inl (rvN64 a b).toInt) :: ast.map zT) (zSg σ) = _; rw [zT_N64]; exact h) Q hQ
theorem zR_2 (hF : zH F) (hQ : ∀ r' s', r'.map zT = r → zSg s' = s → Q r' s') (h : zB_2 (zEv F) d i n (zTl als) (ast.map zT) (zSg σ) a b c tb = some (r, s)) : rvB_2 (rvWp F) d i n als ast σ Q a b c tb := by
  unfold zB_2 at h
  unfold rvB_2
  split at h
  · rename_i v hv
    obtain ⟨o', h1, h2⟩ := zT_get hv
    match o', h2 with
    | some (.inl w), h2 =>
      cases h2
      rw [h1]
      exact hF d i (n + 1) als (.inl w :: ast) σ r s h Q hQ
  · rename_i v hv
    obtain ⟨o', h1, h2⟩ := zT_get hv
    match o', h2 with
    | some (.inr (.inl w)), h2 =>
      cases h2
      rw [h1]
      exact hF d i (n + 1) als (.inr (.inl w) :: ast) σ r s h Q hQ
  · rename_i v hv
    obtain ⟨o', h1, h2⟩ := zT_get hv
    match o', h2 with
    | some (.inr (.inr w)), h2 =>
      cases h2
      rw [h1]
      exact hF d i (n + 1) als (.inr (.inr v) :: ast) σ r s h Q hQ
  · cases h
theorem zR_3 (hF : zH F) (hQ : ∀ r' s', r'.map zT = r → zSg s' = s → Q r' s') (h : zB_3 (zEv F) d i n (zTl als) (ast.map zT) (zSg σ) a b c tb = some (r, s)) : rvB_3 (rvWp F) d i n als ast σ Q a b c tb := by
  unfold zB_3 at h
  unfold rvB_3
  match ast, b, h with
  | .inl v :: t, 0, h => exact hF d i (n + 1) _ t σ r s (by rw [← zT_st1]; exact h) Q hQ
  | .inl v :: t, b + 1, h => exact zNo h
  | .inr (.inl v) :: t, 0, h => exact zNo h
  | .inr (.inl v) :: t, 1, h => exact hF d i (n + 1) _ t σ r s (by rw [← zT_st2]; exact h) Q hQ
  | .inr (.inl v) :: t, b + 2, h => exact zNo h
  | .inr (.inr v) :: t, 0, h => exact zNo h
  | .inr (.inr v) :: t, 1, h => exact zNo h
  | .inr (.inr v) :: t, 2, h => exact hF d i (n + 1) _ t σ r s (by rw [← zT_st1]; exact h) Q hQ
  | .inr (.inr v) :: t, b + 3, h => exact zNo h
  | [], b, h => exact zNo h
theorem zR_4 (hF : zH F) (hQ : ∀ r' s', r'.map zT = r → zSg s' = s → Q r' s') (h : zB_4 (zEv F) d i n (zTl als) (ast.map zT) (zSg σ) a b c tb = some (r, s)) : rvB_4 (rvWp F) d i n als ast σ Q a b c tb := by
  unfold zB_4 at h
  unfold rvB_4
  split at h
  · rename_i v hv
    obtain ⟨o', h1, h2⟩ := zT_get hv
    match o', h2 with
    | some (.inl w), h2 =>
      cases h2
      rw [h1]
      refine hF d i (n + 1) _ ast σ r s ?_ Q hQ
      rw [← zT_st1]
      show zEv F d i (n + 1) (zSt1 (zTl als) a (.inl (w + rvN32 b c).toInt)) _ _ = _
      rw [Int32.toInt_add, zT_N32, ← zW_bmod]
      have e : zW (w.toInt + zW (rvZ b c)) = zW (w.toInt + rvZ b c) := by unfold zW; omega
      rw [e]
      exact h
  · cases h
theorem zR_5 (hF : zH F) (hQ : ∀ r' s', r'.map zT = r → zSg s' = s → Q r' s') (h : zB_5 (zEv F) d i n (zTl als) (ast.map zT) (zSg σ) a b c tb = some (r, s)) : rvB_5 (rvWp F) d i n als ast σ Q a b c tb := by
  unfold zB_5 at h
  unfold rvB_5
  match ast, h with
  | .inl y :: .inl v :: t, h =>
    replace h : (if zBinOk a y.toInt = true then zEv F d i (n + 1) (zTl als) (.inl (zBin a v.toInt y.toInt) :: t.map zT) (zSg σ) else none) = some (r, s) := h
    split at h
    · rename_i ho
      refine ⟨?_, hF d i (n + 1) als (.inl (rvBin a v y) :: t) σ r s ?_ Q hQ⟩
      · match a, ho with
        | 0, _ => trivial
        | 1, _ => trivial
        | 2, _ => trivial
        | 3, _ => trivial
        | 4, _ => trivial
        | 5, _ => trivial
        | 6, _ => trivial
        | 7, _ => trivial
        | 8, ho =>
          show ¬ y = 0
          rw [← zT_0]; exact of_decide_eq_true ho
        | 9, ho =>
          show ¬ y = 0
          rw [← zT_0]; exact of_decide_eq_true ho
        | a + 10, _ => trivial
      · rw [List.map_cons]
        show zEv F d i (n + 1) (zTl als) (.inl (rvBin a v y).toInt :: _) _ = _
        rw [zT_bin]
        exact h
    · cases h
  | [], h => exact zNo h
  | [.inl y], h => exact zNo h
  | .inl y :: .inr (.inl v) :: t, h => exact zNo h
  | .inl y :: .inr (.inr v) :: t, h => exact zNo h
  | .inr (.inl y) :: t, h => exact zNo h
  | .inr (.inr y) :: t, h => exact zNo h
theorem zR_6 (hF : zH F) (hQ : ∀ r' s', r'.map zT = r → zSg s' = s → Q r' s') (h : zB_6 (zEv F) d i n (zTl als) (ast.map zT) (zSg σ) a b c tb = some (r, s)) : rvB_6 (rvWp F) d i n als ast σ Q a b c tb := by
  unfold zB_6 at h
  unfold rvB_6
  match ast, h with
  | .inr (.inl y) :: .inr (.inl v) :: t, h =>
    replace h : (if zLBinOk a y.toInt = true then zEv F d i (n + 1) (zTl als) (.inr (.inl (zLBin a v.toInt y.toInt)) :: t.map zT) (zSg σ) else none) = some (r, s) := h
    split at h
    · rename_i ho
      refine ⟨?_, hF d i (n + 1) als (.inr (.inl (rvLBin a v y)) :: t) σ r s ?_ Q hQ⟩
      · match a, ho with
        | 0, _ => trivial
        | 1, _ => trivial
        | 2, _ => trivial
        | 3, _ => trivial
        | 4, _ => trivial
        | a + 5, ho =>
          show ¬ y = 0
          rw [← zT_0l]; exact of_decide_eq_true ho
      · rw [List.map_cons]
        show zEv F d i (n + 1) (zTl als) (.inr (.inl (rvLBin a v y).toInt) :: _) _ = _
        rw [zT_lbin]
        exact h
    · cases h
  | [], h => exact zNo h
  | [.inr (.inl y)], h => exact zNo h
  | .inr (.inl y) :: .inl v :: t, h => exact zNo h
  | .inr (.inl y) :: .inr (.inr v) :: t, h => exact zNo h
  | .inl y :: t, h => exact zNo h
  | .inr (.inr y) :: t, h => exact zNo h
theorem zR_7 (hF : zH F) (hQ : ∀ r' s', r'.map zT = r → zSg s' = s → Q r' s') (h : zB_7 (zEv F) d i n (zTl als) (ast.map zT) (zSg σ) a b c tb = some (r, s)) : rvB_7 (rvWp F) d i n als ast σ Q a b c tb := by
  unfold zB_7 at h
  unfold rvB_7
  match ast, h with
  | .inl y :: .inr (.inl v) :: t, h =>
    refine hF d i (n + 1) als (.inr (.inl (rvLSh a v y)) :: t) σ r s ?_ Q hQ
    rw [List.map_cons]
    show zEv F d i (n + 1) (zTl als) (.inr (.inl (rvLSh a v y).toInt) :: _) _ = _
    rw [zT_lsh]
    exact h
  | [], h => exact zNo h
  | [.inl y], h => exact zNo h
  | .inl y :: .inl v :: t, h => exact zNo h
  | .inl y :: .inr (.inr v) :: t, h => exact zNo h
  | .inr (.inl y) :: t, h => exact zNo h
  | .inr (.inr y) :: t, h => exact zNo h
theorem zR_8 (hF : zH F) (hQ : ∀ r' s', r'.map zT = r → zSg s' = s → Q r' s') (h : zB_8 (zEv F) d i n (zTl als) (ast.map zT) (zSg σ) a b c tb = some (r, s)) : rvB_8 (rvWp F) d i n als ast σ Q a b c tb := by
  unfold zB_8 at h
  unfold rvB_8
  match ast, a, h with
  | .inl v :: t, 0, h =>
    refine hF d i (n + 1) als (.inl (-v) :: t) σ r s ?_ Q hQ
    rw [List.map_cons]
    show zEv F d i (n + 1) (zTl als) (.inl (-v).toInt :: _) _ = _
    rw [Int32.toInt_neg, ← zW_bmod]
    exact h
  | .inl v :: t, 1, h =>
    refine hF d i (n + 1) als (.inr (.inl v.toInt64) :: t) σ r s ?_ Q hQ
    rw [List.map_cons]
    show zEv F d i (n + 1) (zTl als) (.inr (.inl v.toInt64.toInt) :: _) _ = _
    rw [Int32.toInt_toInt64]
    exact h
  | .inl v :: t, 2, h => exact zNo h
  | .inl v :: t, 3, h =>
    refine hF d i (n + 1) als (.inl v.toInt8.toInt32 :: t) σ r s ?_ Q hQ
    rw [List.map_cons]
    show zEv F d i (n + 1) (zTl als) (.inl v.toInt8.toInt32.toInt :: _) _ = _
    rw [Int8.toInt_toInt32, Int32.toInt_toInt8, show v.toInt.bmod (2 ^ 8) = (v.toInt + 128) % 256 - 128 by rw [Int.bmod_def]; split <;> omega]
    exact h
  | .inl v :: t, 4, h =>
    refine hF d i (n + 1) als (.inl v.toInt16.toInt32 :: t) σ r s ?_ Q hQ
    rw [List.map_cons]
    show zEv F d i (n + 1) (zTl als) (.inl v.toInt16.toInt32.toInt :: _) _ = _
    rw [Int16.toInt_toInt32, Int32.toInt_toInt16, show v.toInt.bmod (2 ^ 16) = (v.toInt + 32768) % 65536 - 32768 by rw [Int.bmod_def]; split <;> omega]
    exact h
  | .inl v :: t, a + 5, h => exact zNo h
  | .inr (.inl v) :: t, 0, h => exact zNo h
  | .inr (.inl v) :: t, 1, h => exact zNo h
  | .inr (.inl v) :: t, 2, h =>
    refine hF d i (n + 1) als (.inl v.toInt32 :: t) σ r s ?_ Q hQ
    rw [List.map_cons]
    show zEv F d i (n + 1) (zTl als) (.inl v.toInt32.toInt :: _) _ = _
    rw [Int64.toInt_toInt32, ← zW_bmod]
    exact h
  | .inr (.inl v) :: t, a + 3, h => exact zNo h
  | .inr (.inr v) :: t, a, h => exact zNo h
  | [], a, h => exact zNo h
theorem zR_9 (hF : zH F) (hQ : ∀ r' s', r'.map zT = r → zSg s' = s → Q r' s') (h : zB_9 (zEv F) d i n (zTl als) (ast.map zT) (zSg σ) a b c tb = some (r, s)) : rvB_9 (rvWp F) d i n als ast σ Q a b c tb := by
  unfold zB_9 at h
  unfold rvB_9
  match ast, h with
  | .inr (.inl y) :: .inr (.inl v) :: t, h =>
    refine hF d i (n + 1) als (.inl (lg_cmp v y) :: t) σ r s ?_ Q hQ
    rw [List.map_cons]
    show zEv F d i (n + 1) (zTl als) (.inl (lg_cmp v y).toInt :: _) _ = _
    have e : (lg_cmp v y).toInt = if y.toInt < v.toInt then 1 else if v.toInt = y.toInt then 0 else -1 := by
      unfold lg_cmp
      by_cases h1 : y.toInt < v.toInt
      · rw [if_pos h1, if_pos (show v > y from Int64.lt_iff_toInt_lt.mpr h1)]; rfl
      · rw [if_neg h1, if_neg (fun q : v > y => h1 (Int64.lt_iff_toInt_lt.mp q))]
        by_cases h2 : v = y
        · rw [if_pos h2, if_pos (by rw [h2])]; rfl
        · rw [if_neg h2, if_neg (fun q => h2 (Int64.toInt_inj.mp q))]; rfl
    rw [e]
    exact h
  | [], h => exact zNo h
  | [.inr (.inl y)], h => exact zNo h
  | .inr (.inl y) :: .inl v :: t, h => exact zNo h
  | .inr (.inl y) :: .inr (.inr v) :: t, h => exact zNo h
  | .inl y :: t, h => exact zNo h
  | .inr (.inr y) :: t, h => exact zNo h
end ZBr
