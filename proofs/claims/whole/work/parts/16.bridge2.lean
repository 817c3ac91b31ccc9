-- what the small machine over whole numbers answers, the small machine answers: cells, branches, calls
section ZBr
variable {F d i n a b c : Nat} {tb : List Nat} {als : rvL} {ast : List rvV} {σ : rvS} {r : Option zV} {s : zS} {Q : Option rvV → rvS → Prop}
theorem zR_10 (hF : zH F) (hQ : ∀ r' s', r'.map zT = r → zSg s' = s → Q r' s') (h : zB_10 (zEv F) d i n (zTl als) (ast.map zT) (zSg σ) a b c tb = some (r, s)) : rvB_10 (rvWp F) d i n als ast σ Q a b c tb := by
  unfold zB_10 at h
  unfold rvB_10
  match ast, h with
  | .inr (.inr (k, g)) :: t, h =>
    replace h : (if k = a then (match rvFt a b with
      | 0 => zEv F d i (n + 1) (zTl als) (.inl (σ.1 a g b).toInt :: t.map zT) (zSg σ)
      | 1 => zEv F d i (n + 1) (zTl als) (.inl (σ.1 a g b).toInt :: t.map zT) (zSg σ)
      | 2 => zEv F d i (n + 1) (zTl als) (.inr (.inr (rvTg a g b)) :: t.map zT) (zSg σ)
      | _ => none) else none) = some (r, s) := h
    split at h
    · rename_i hk
      refine ⟨hk, ?_⟩
      generalize rvFt a b = f at h
      match f, h with
      | 0, h => exact hF d i (n + 1) als (.inl (σ.1 a g b) :: t) σ r s h Q hQ
      | 1, h => exact hF d i (n + 1) als (.inl (σ.1 a g b) :: t) σ r s h Q hQ
      | 2, h => exact hF d i (n + 1) als (.inr (.inr (rvTg a g b)) :: t) σ r s h Q hQ
      | f + 3, h => exact zNo h
    · exact zNo h
  | [], h => exact zNo h
  | .inl y :: t, h => exact zNo h
  | .inr (.inl y) :: t, h => exact zNo h
theorem zR_11 (hF : zH F) (hQ : ∀ r' s', r'.map zT = r → zSg s' = s → Q r' s') (h : zB_11 (zEv F) d i n (zTl als) (ast.map zT) (zSg σ) a b c tb = some (r, s)) : rvB_11 (rvWp F) d i n als ast σ Q a b c tb := by
  unfold zB_11 at h
  unfold rvB_11
  match ast, h with
  | .inl v :: .inr (.inr (k, g)) :: t, h =>
    replace h : (if k = a ∧ zFld (rvFt a b) v.toInt = true then zEv F d i (n + 1) (zTl als) (t.map zT) (zU (zSg σ) a g b v.toInt) else none) = some (r, s) := h
    split at h
    · rename_i hk
      refine ⟨hk.1, ?_, hF d i (n + 1) als t _ r s (by rw [← zT_U]; exact h) Q hQ⟩
      have h2 := hk.2
      generalize rvFt a b = f at h2
      match f, h2 with
      | 0, _ => trivial
      | 1, h2 =>
        have h3 : v.toInt = 0 ∨ v.toInt = 1 := of_decide_eq_true h2
        rw [zT_0, zT_1] at h3
        exact h3
      | f + 2, h2 => exact Bool.noConfusion h2
    · exact zNo h
  | [], h => exact zNo h
  | [.inl v], h => exact zNo h
  | .inl v :: .inl y :: t, h => exact zNo h
  | .inl v :: .inr (.inl y) :: t, h => exact zNo h
  | .inr (.inl y) :: t, h => exact zNo h
  | .inr (.inr y) :: t, h => exact zNo h
theorem zR_12 (hF : zH F) (hQ : ∀ r' s', r'.map zT = r → zSg s' = s → Q r' s') (h : zB_12 (zEv F) d i n (zTl als) (ast.map zT) (zSg σ) a b c tb = some (r, s)) : rvB_12 (rvWp F) d i n als ast σ Q a b c tb := by
  unfold zB_12 at h
  unfold rvB_12
  match ast, a, h with
  | .inl v :: .inr (.inr (k, g)) :: t, 0, h => exact zNo h
  | .inl v :: .inr (.inr (k, g)) :: t, 1, h =>
    replace h : (if ((rvK k).1 = 1 ∨ (rvK k).1 = 11) ∧ zIn v.toInt (rvLen σ k g) = true then zEv F d i (n + 1) (zTl als) (.inl (σ.1 k g v.toInt.toNat).toInt :: t.map zT) (zSg σ) else none) = some (r, s) := h
    split at h
    · rename_i hk
      exact ⟨hk.1, zIn_of hk.2, hF d i (n + 1) als (.inl (σ.1 k g v.toInt.toNat) :: t) σ r s h Q hQ⟩
    · exact zNo h
  | .inl v :: .inr (.inr (k, g)) :: t, 2, h =>
    replace h : (if (rvK k).1 = 2 ∧ zIn v.toInt (rvLen σ k g) = true then zEv F d i (n + 1) (zTl als) (.inr (.inl (σ.2 k g v.toInt.toNat).toInt) :: t.map zT) (zSg σ) else none) = some (r, s) := h
    split at h
    · rename_i hk
      exact ⟨hk.1, zIn_of hk.2, hF d i (n + 1) als (.inr (.inl (σ.2 k g v.toInt.toNat)) :: t) σ r s h Q hQ⟩
    · exact zNo h
  | .inl v :: .inr (.inr (k, g)) :: t, 3, h =>
    replace h : (if (rvK k).1 = 3 ∧ zIn v.toInt (rvLen σ k g) = true then zEv F d i (n + 1) (zTl als) (.inl (σ.1 k g v.toInt.toNat).toInt :: t.map zT) (zSg σ) else none) = some (r, s) := h
    split at h
    · rename_i hk
      exact ⟨hk.1, zIn_of hk.2, hF d i (n + 1) als (.inl (σ.1 k g v.toInt.toNat) :: t) σ r s h Q hQ⟩
    · exact zNo h
  | .inl v :: .inr (.inr (k, g)) :: t, 4, h =>
    replace h : (if (rvK k).1 = 4 ∧ zIn v.toInt (rvLen σ k g) = true then zEv F d i (n + 1) (zTl als) (.inl (σ.1 k g v.toInt.toNat).toInt :: t.map zT) (zSg σ) else none) = some (r, s) := h
    split at h
    · rename_i hk
      exact ⟨hk.1, zIn_of hk.2, hF d i (n + 1) als (.inl (σ.1 k g v.toInt.toNat) :: t) σ r s h Q hQ⟩
    · exact zNo h
  | .inl v :: .inr (.inr (k, g)) :: t, 5, h =>
    replace h : (if (5 ≤ (rvK k).1 ∧ (rvK k).1 ≤ 10) ∧ zIn v.toInt (rvLen σ k g) = true then zEv F d i (n + 1) (zTl als) (.inr (.inr (rvTg k g v.toInt.toNat)) :: t.map zT) (zSg σ) else none) = some (r, s) := h
    split at h
    · rename_i hk
      exact ⟨hk.1, zIn_of hk.2, hF d i (n + 1) als (.inr (.inr (rvTg k g v.toInt.toNat)) :: t) σ r s h Q hQ⟩
    · exact zNo h
  | .inl v :: .inr (.inr (k, g)) :: t, a + 6, h => exact zNo h
  | [], a, h => exact zNo h
  | [.inl v], a, h => exact zNo h
  | .inl v :: .inl y :: t, a, h => exact zNo h
  | .inl v :: .inr (.inl y) :: t, a, h => exact zNo h
  | .inr (.inl y) :: t, a, h => exact zNo h
  | .inr (.inr y) :: t, a, h => exact zNo h
theorem zR_13 (hF : zH F) (hQ : ∀ r' s', r'.map zT = r → zSg s' = s → Q r' s') (h : zB_13 (zEv F) d i n (zTl als) (ast.map zT) (zSg σ) a b c tb = some (r, s)) : rvB_13 (rvWp F) d i n als ast σ Q a b c tb := by
  unfold zB_13 at h
  unfold rvB_13
  match ast, a, h with
  | .inl y :: .inl v :: .inr (.inr (k, g)) :: t, 0, h => exact zNo h
  | .inl y :: .inl v :: .inr (.inr (k, g)) :: t, 1, h =>
    replace h : (if (rvK k).1 = 1 ∧ zIn v.toInt (rvLen σ k g) = true then zEv F d i (n + 1) (zTl als) (t.map zT) (zU (zSg σ) k g v.toInt.toNat y.toInt) else none) = some (r, s) := h
    split at h
    · rename_i hk
      exact ⟨hk.1, zIn_of hk.2, hF d i (n + 1) als t _ r s (by rw [← zT_U]; exact h) Q hQ⟩
    · exact zNo h
  | .inl y :: .inl v :: .inr (.inr (k, g)) :: t, 2, h => exact zNo h
  | .inl y :: .inl v :: .inr (.inr (k, g)) :: t, 3, h =>
    replace h : (if (rvK k).1 = 3 ∧ zIn v.toInt (rvLen σ k g) = true then zEv F d i (n + 1) (zTl als) (t.map zT) (zU (zSg σ) k g v.toInt.toNat ((y.toInt + 128) % 256 - 128)) else none) = some (r, s) := h
    split at h
    · rename_i hk
      refine ⟨hk.1, zIn_of hk.2, hF d i (n + 1) als t _ r s ?_ Q hQ⟩
      rw [← zT_U, Int8.toInt_toInt32, Int32.toInt_toInt8, show y.toInt.bmod (2 ^ 8) = (y.toInt + 128) % 256 - 128 by rw [Int.bmod_def]; split <;> omega]
      exact h
    · exact zNo h
  | .inl y :: .inl v :: .inr (.inr (k, g)) :: t, 4, h =>
    replace h : (if (rvK k).1 = 4 ∧ zIn v.toInt (rvLen σ k g) = true ∧ (y.toInt = 0 ∨ y.toInt = 1) then zEv F d i (n + 1) (zTl als) (t.map zT) (zU (zSg σ) k g v.toInt.toNat y.toInt) else none) = some (r, s) := h
    split at h
    · rename_i hk
      refine ⟨hk.1, zIn_of hk.2.1, ?_, hF d i (n + 1) als t _ r s (by rw [← zT_U]; exact h) Q hQ⟩
      have h3 := hk.2.2
      rw [zT_0, zT_1] at h3
      exact h3
    · exact zNo h
  | .inl y :: .inl v :: .inr (.inr (k, g)) :: t, a + 5, h => exact zNo h
  | .inr (.inl y) :: .inl v :: .inr (.inr (k, g)) :: t, 0, h => exact zNo h
  | .inr (.inl y) :: .inl v :: .inr (.inr (k, g)) :: t, 1, h => exact zNo h
  | .inr (.inl y) :: .inl v :: .inr (.inr (k, g)) :: t, 2, h =>
    replace h : (if (rvK k).1 = 2 ∧ zIn v.toInt (rvLen σ k g) = true then zEv F d i (n + 1) (zTl als) (t.map zT) (zUL (zSg σ) k g v.toInt.toNat y.toInt) else none) = some (r, s) := h
    split at h
    · rename_i hk
      exact ⟨hk.1, zIn_of hk.2, hF d i (n + 1) als t _ r s (by rw [← zT_UL]; exact h) Q hQ⟩
    · exact zNo h
  | .inr (.inl y) :: .inl v :: .inr (.inr (k, g)) :: t, a + 3, h => exact zNo h
  | [], a, h => exact zNo h
  | [.inl v], a, h => exact zNo h
  | [.inl y, .inl v], a, h => exact zNo h
  | .inl y :: .inl v :: .inl z :: t, a, h => exact zNo h
  | .inl y :: .inl v :: .inr (.inl z) :: t, a, h => exact zNo h
  | .inl v :: .inr (.inl y) :: t, a, h => exact zNo h
  | .inl v :: .inr (.inr y) :: t, a, h => exact zNo h
  | [.inr (.inl y)], a, h => exact zNo h
  | [.inr (.inl y), .inl v], a, h => exact zNo h
  | .inr (.inl y) :: .inl v :: .inl z :: t, a, h => exact zNo h
  | .inr (.inl y) :: .inl v :: .inr (.inl z) :: t, a, h => exact zNo h
  | .inr (.inl y) :: .inr (.inl v) :: t, a, h => exact zNo h
  | .inr (.inl y) :: .inr (.inr v) :: t, a, h => exact zNo h
  | .inr (.inr y) :: t, a, h => exact zNo h
theorem zR_14 (hF : zH F) (hQ : ∀ r' s', r'.map zT = r → zSg s' = s → Q r' s') (h : zB_14 (zEv F) d i n (zTl als) (ast.map zT) (zSg σ) a b c tb = some (r, s)) : rvB_14 (rvWp F) d i n als ast σ Q a b c tb := by
  unfold zB_14 at h
  unfold rvB_14
  match ast, h with
  | .inr (.inr (k, g)) :: t, h =>
    replace h : (if 1 ≤ (rvK k).1 ∧ (rvK k).1 ≤ 11 then zEv F d i (n + 1) (zTl als) (.inl (zW (rvLen σ k g : Int)) :: t.map zT) (zSg σ) else none) = some (r, s) := h
    split at h
    · rename_i hk
      refine ⟨hk, hF d i (n + 1) als (.inl (Int32.ofNat (rvLen σ k g)) :: t) σ r s ?_ Q hQ⟩
      rw [List.map_cons]
      show zEv F d i (n + 1) (zTl als) (.inl (rvN32 (rvLen σ k g) 0).toInt :: _) _ = _
      rw [zT_N32]
      exact h
    · exact zNo h
  | [], h => exact zNo h
  | .inl y :: t, h => exact zNo h
  | .inr (.inl y) :: t, h => exact zNo h
theorem zR_15 (hF : zH F) (hQ : ∀ r' s', r'.map zT = r → zSg s' = s → Q r' s') (h : zB_15 (zEv F) d i n (zTl als) (ast.map zT) (zSg σ) a b c tb = some (r, s)) : rvB_15 (rvWp F) d i n als ast σ Q a b c tb := by
  unfold zB_15 at h
  unfold rvB_15
  match ast, h with
  | .inl v :: t, h => exact hF d i (n + 1) als (.inl v :: .inl v :: t) σ r s h Q hQ
  | .inr (.inr v) :: t, h => exact hF d i (n + 1) als (.inr (.inr v) :: .inr (.inr v) :: t) σ r s h Q hQ
  | [], h => exact zNo h
  | .inr (.inl y) :: t, h => exact zNo h
theorem zR_16 (hF : zH F) (hQ : ∀ r' s', r'.map zT = r → zSg s' = s → Q r' s') (h : zB_16 (zEv F) d i n (zTl als) (ast.map zT) (zSg σ) a b c tb = some (r, s)) : rvB_16 (rvWp F) d i n als ast σ Q a b c tb := by
  unfold zB_16 at h
  unfold rvB_16
  match ast, h with
  | .inl v :: .inl y :: t, h => exact hF d i (n + 1) als (.inl v :: .inl y :: .inl v :: t) σ r s h Q hQ
  | .inl v :: .inr (.inr y) :: t, h => exact hF d i (n + 1) als (.inl v :: .inr (.inr y) :: .inl v :: t) σ r s h Q hQ
  | [], h => exact zNo h
  | [.inl v], h => exact zNo h
  | .inl v :: .inr (.inl y) :: t, h => exact zNo h
  | .inr (.inl y) :: t, h => exact zNo h
  | .inr (.inr y) :: t, h => exact zNo h
theorem zR_17 (hF : zH F) (hQ : ∀ r' s', r'.map zT = r → zSg s' = s → Q r' s') (h : zB_17 (zEv F) d i n (zTl als) (ast.map zT) (zSg σ) a b c tb = some (r, s)) : rvB_17 (rvWp F) d i n als ast σ Q a b c tb := by
  unfold zB_17 at h
  unfold rvB_17
  match ast, h with
  | .inl v :: .inr (.inr y) :: t, h => exact hF d i (n + 1) als (.inl v :: .inr (.inr y) :: .inl v :: .inr (.inr y) :: t) σ r s h Q hQ
  | [], h => exact zNo h
  | [.inl v], h => exact zNo h
  | .inl v :: .inl y :: t, h => exact zNo h
  | .inl v :: .inr (.inl y) :: t, h => exact zNo h
  | .inr (.inl y) :: t, h => exact zNo h
  | .inr (.inr y) :: t, h => exact zNo h
theorem zR_18 (hF : zH F) (hQ : ∀ r' s', r'.map zT = r → zSg s' = s → Q r' s') (h : zB_18 (zEv F) d i n (zTl als) (ast.map zT) (zSg σ) a b c tb = some (r, s)) : rvB_18 (rvWp F) d i n als ast σ Q a b c tb := by
  unfold zB_18 at h
  unfold rvB_18
  match ast, h with
  | .inl v :: t, h => exact hF d i (n + 1) als t σ r s h Q hQ
  | [], h => exact zNo h
  | .inr (.inl y) :: t, h => exact zNo h
  | .inr (.inr y) :: t, h => exact zNo h
theorem zR_19 (hF : zH F) (hQ : ∀ r' s', r'.map zT = r → zSg s' = s → Q r' s') (h : zB_19 (zEv F) d i n (zTl als) (ast.map zT) (zSg σ) a b c tb = some (r, s)) : rvB_19 (rvWp F) d i n als ast σ Q a b c tb := by
  unfold zB_19 at h
  unfold rvB_19
  match ast, h with
  | .inl v :: t, h =>
    replace h : (if zC1 a v.toInt = true then zEv F d i b (zTl als) (t.map zT) (zSg σ) else zEv F d i (n + 1) (zTl als) (t.map zT) (zSg σ)) = some (r, s) := h
    split at h
    · rename_i hk
      exact ⟨fun _ => hF d i b als t σ r s h Q hQ, fun q => absurd ((zT_c1 a v).mp hk) q⟩
    · rename_i hk
      exact ⟨fun q => absurd ((zT_c1 a v).mpr q) hk, fun _ => hF d i (n + 1) als t σ r s h Q hQ⟩
  | [], h => exact zNo h
  | .inr (.inl y) :: t, h => exact zNo h
  | .inr (.inr y) :: t, h => exact zNo h
theorem zR_20 (hF : zH F) (hQ : ∀ r' s', r'.map zT = r → zSg s' = s → Q r' s') (h : zB_20 (zEv F) d i n (zTl als) (ast.map zT) (zSg σ) a b c tb = some (r, s)) : rvB_20 (rvWp F) d i n als ast σ Q a b c tb := by
  unfold zB_20 at h
  unfold rvB_20
  match ast, h with
  | .inl y :: .inl v :: t, h =>
    replace h : (if zC2 a v.toInt y.toInt = true then zEv F d i b (zTl als) (t.map zT) (zSg σ) else zEv F d i (n + 1) (zTl als) (t.map zT) (zSg σ)) = some (r, s) := h
    split at h
    · rename_i hk
      exact ⟨fun _ => hF d i b als t σ r s h Q hQ, fun q => absurd ((zT_c2 a v y).mp hk) q⟩
    · rename_i hk
      exact ⟨fun q => absurd ((zT_c2 a v y).mpr q) hk, fun _ => hF d i (n + 1) als t σ r s h Q hQ⟩
  | [], h => exact zNo h
  | [.inl v], h => exact zNo h
  | .inl v :: .inr (.inl y) :: t, h => exact zNo h
  | .inl v :: .inr (.inr y) :: t, h => exact zNo h
  | .inr (.inl y) :: t, h => exact zNo h
  | .inr (.inr y) :: t, h => exact zNo h
theorem zR_21 (hF : zH F) (hQ : ∀ r' s', r'.map zT = r → zSg s' = s → Q r' s') (h : zB_21 (zEv F) d i n (zTl als) (ast.map zT) (zSg σ) a b c tb = some (r, s)) : rvB_21 (rvWp F) d i n als ast σ Q a b c tb :=
  hF d i b als ast σ r s h Q hQ
theorem zR_22 (hF : zH F) (hQ : ∀ r' s', r'.map zT = r → zSg s' = s → Q r' s') (h : zB_22 (zEv F) d i n (zTl als) (ast.map zT) (zSg σ) a b c tb = some (r, s)) : rvB_22 (rvWp F) d i n als ast σ Q a b c tb := by
  unfold zB_22 at h
  unfold rvB_22
  match ast, h with
  | .inl v :: t, h =>
    replace h : (if v.toInt < (a : Int) - 1000 ∨ (c : Int) - 1000 < v.toInt then zEv F d i b (zTl als) (t.map zT) (zSg σ) else (match tb[(v.toInt - ((a : Int) - 1000)).toNat]? with
      | some u => zEv F d i u (zTl als) (t.map zT) (zSg σ)
      | none => none)) = some (r, s) := h
    split at h
    · rename_i hk
      exact ⟨fun _ => hF d i b als t σ r s h Q hQ, fun q => absurd hk q⟩
    · rename_i hk
      refine ⟨fun q => absurd q hk, fun _ => ?_⟩
      split at h
      · rename_i u hu
        exact ⟨u, hu, hF d i u als t σ r s h Q hQ⟩
      · exact zNo h
  | [], h => exact zNo h
  | .inr (.inl y) :: t, h => exact zNo h
  | .inr (.inr y) :: t, h => exact zNo h
theorem zR_23 (hF : zH F) (hQ : ∀ r' s', r'.map zT = r → zSg s' = s → Q r' s') (h : zB_23 (zEv F) d i n (zTl als) (ast.map zT) (zSg σ) a b c tb = some (r, s)) : rvB_23 (rvWp F) d i n als ast σ Q a b c tb := by
  unfold zB_23 at h
  unfold rvB_23
  split at h
  · exact zNo h
  · rename_i d'
    split at h
    · rename_i hk
      have e1 : ((ast.map zT).take b).reverse = (ast.take b).reverse.map zT := by rw [← List.map_take, List.map_reverse]
      have e2 : (ast.map zT).drop b = (ast.drop b).map zT := by rw [← List.map_drop]
      rw [e1, e2, zT_cat, List.length_map, zT_args, zTl_len] at hk
      rw [e1, e2, zT_entry] at h
      refine ⟨⟨hk.1, hk.2.1, fun q => ?_, hk.2.2.2⟩, ?_⟩
      · have h3 := hk.2.2.1 q
        revert h3
        generalize (ast.take b).reverse = as
        intro h3
        match as, h3 with
        | .inr (.inr (k, g)) :: t, h3 =>
          have h4 : k = (rvM a).2.2.2.2.1 := eq_of_beq h3
          exact ⟨g, t, by rw [h4]⟩
        | [], h3 => exact Bool.noConfusion h3
        | .inl v :: t, h3 => exact Bool.noConfusion h3
        | .inr (.inl v) :: t, h3 => exact Bool.noConfusion h3
      · split at h
        · rename_i v s1 hv
          refine hF d' a 0 (rvEntry a (ast.take b).reverse) [] σ v s1 hv _ (fun r' s' hr hs => ?_)
          subst hr hs
          refine hF (d' + 1) i (n + 1) als (r'.toList ++ ast.drop b) s' r s ?_ Q hQ
          rw [List.map_append]
          have er : (Option.map zT r').toList = List.map zT r'.toList := by cases r' <;> rfl
          rw [er] at h
          exact h
        · exact zNo h
    · exact zNo h
theorem zR_24 (hF : zH F) (hQ : ∀ r' s', r'.map zT = r → zSg s' = s → Q r' s') (h : zB_24 (zEv F) d i n (zTl als) (ast.map zT) (zSg σ) a b c tb = some (r, s)) : rvB_24 (rvWp F) d i n als ast σ Q a b c tb := by
  unfold zB_24 at h
  unfold rvB_24
  match ast, h with
  | [], h =>
    replace h : (if (rvM i).2.2.2.1 = none then some (none, zSg σ) else none) = some (r, s) := h
    split at h
    · rename_i hk
      cases h
      exact ⟨hk, hQ none σ rfl rfl⟩
    · exact zNo h
  | .inl v :: t, h => exact zNo h
  | .inr (.inl y) :: t, h => exact zNo h
  | .inr (.inr y) :: t, h => exact zNo h
theorem zR_25 (hF : zH F) (hQ : ∀ r' s', r'.map zT = r → zSg s' = s → Q r' s') (h : zB_25 (zEv F) d i n (zTl als) (ast.map zT) (zSg σ) a b c tb = some (r, s)) : rvB_25 (rvWp F) d i n als ast σ Q a b c tb := by
  unfold zB_25 at h
  unfold rvB_25
  match ast, h with
  | [.inl v], h =>
    replace h : (if zRet (rvM i).2.2.2.1 v.toInt = true then some (some (.inl v.toInt), zSg σ) else none) = some (r, s) := h
    split at h
    · rename_i hk
      cases h
      refine ⟨?_, hQ (some (.inl v)) σ rfl rfl⟩
      generalize (rvM i).2.2.2.1 = f at hk
      unfold zRet at hk
      unfold rvRet
      split at hk
      · trivial
      · have h3 : v.toInt = 0 ∨ v.toInt = 1 := of_decide_eq_true hk
        rw [zT_0, zT_1] at h3
        exact h3
      · cases hk
    · exact zNo h
  | [], h => exact zNo h
  | .inl v :: y :: t, h => exact zNo h
  | .inr (.inl y) :: t, h => exact zNo h
  | .inr (.inr y) :: t, h => exact zNo h
theorem zR_26 (hF : zH F) (hQ : ∀ r' s', r'.map zT = r → zSg s' = s → Q r' s') (h : zB_26 (zEv F) d i n (zTl als) (ast.map zT) (zSg σ) a b c tb = some (r, s)) : rvB_26 (rvWp F) d i n als ast σ Q a b c tb := by
  unfold zB_26 at h
  unfold rvB_26
  match ast, h with
  | [.inr (.inl v)], h =>
    replace h : (if (rvM i).2.2.2.1 = some .long then some (some (.inr (.inl v.toInt)), zSg σ) else none) = some (r, s) := h
    split at h
    · rename_i hk
      cases h
      exact ⟨hk, hQ (some (.inr (.inl v))) σ rfl rfl⟩
    · exact zNo h
  | [], h => exact zNo h
  | .inl v :: t, h => exact zNo h
  | .inr (.inl y) :: z :: t, h => exact zNo h
  | .inr (.inr y) :: t, h => exact zNo h
theorem zR_27 (hF : zH F) (hQ : ∀ r' s', r'.map zT = r → zSg s' = s → Q r' s') (h : zB_27 (zEv F) d i n (zTl als) (ast.map zT) (zSg σ) a b c tb = some (r, s)) : rvB_27 (rvWp F) d i n als ast σ Q a b c tb := by
  unfold zB_27 at h
  unfold rvB_27
  match ast, h with
  | [.inr (.inr v)], h =>
    replace h : (if zObj (rvM i).2.2.2.1 = true then some (some (.inr (.inr v)), zSg σ) else none) = some (r, s) := h
    split at h
    · rename_i hk
      cases h
      refine ⟨?_, hQ (some (.inr (.inr v))) σ rfl rfl⟩
      generalize (rvM i).2.2.2.1 = f at hk
      unfold zObj at hk
      split at hk
      · exact ⟨_, rfl⟩
      · cases hk
    · exact zNo h
  | [], h => exact zNo h
  | .inl v :: t, h => exact zNo h
  | .inr (.inl y) :: t, h => exact zNo h
  | .inr (.inr y) :: z :: t, h => exact zNo h
theorem zR_29 (hF : zH F) (hQ : ∀ r' s', r'.map zT = r → zSg s' = s → Q r' s') (h : zB_29 (zEv F) d i n (zTl als) (ast.map zT) (zSg σ) a b c tb = some (r, s)) : rvB_29 (rvWp F) d i n als ast σ Q a b c tb :=
  hF d i (n + 1) als (.inr (.inr (105, 0)) :: ast) σ r s h Q hQ
theorem zR_30 (hF : zH F) (hQ : ∀ r' s', r'.map zT = r → zSg s' = s → Q r' s') (h : zB_30 (zEv F) d i n (zTl als) (ast.map zT) (zSg σ) a b c tb = some (r, s)) : rvB_30 (rvWp F) d i n als ast σ Q a b c tb :=
  hF d i (n + 1) als (.inr (.inr (106, a)) :: ast) σ r s h Q hQ
theorem zR_33 (hF : zH F) (hQ : ∀ r' s', r'.map zT = r → zSg s' = s → Q r' s') (h : zB_33 (zEv F) d i n (zTl als) (ast.map zT) (zSg σ) a b c tb = some (r, s)) : rvB_33 (rvWp F) d i n als ast σ Q a b c tb := by
  unfold zB_33 at h
  unfold rvB_33
  match ast, h with
  | .inl v :: .inr (.inr (k, g)) :: t, h =>
    replace h : (if k = 105 ∧ zIn v.toInt 6 = true then zEv F d i (n + 1) (zTl als) (.inl (rvUn.getD v.toInt.toNat 0).toInt :: t.map zT) (zSg σ) else none) = some (r, s) := h
    split at h
    · rename_i hk
      exact ⟨hk.1, zIn_of hk.2, hF d i (n + 1) als (.inl (rvUn.getD v.toInt.toNat 0) :: t) σ r s h Q hQ⟩
    · exact zNo h
  | [], h => exact zNo h
  | [.inl v], h => exact zNo h
  | .inl v :: .inl y :: t, h => exact zNo h
  | .inl v :: .inr (.inl y) :: t, h => exact zNo h
  | .inr (.inl y) :: t, h => exact zNo h
  | .inr (.inr y) :: t, h => exact zNo h
theorem zR_34 (hF : zH F) (hQ : ∀ r' s', r'.map zT = r → zSg s' = s → Q r' s') (h : zB_34 (zEv F) d i n (zTl als) (ast.map zT) (zSg σ) a b c tb = some (r, s)) : rvB_34 (rvWp F) d i n als ast σ Q a b c tb := by
  unfold zB_34 at h
  unfold rvB_34
  match ast, h with
  | .inr (.inr (k, g)) :: t, h =>
    replace h : (if k = 105 then zEv F d i (n + 1) (zTl als) (.inl 6 :: t.map zT) (zSg σ) else none) = some (r, s) := h
    split at h
    · rename_i hk
      exact ⟨hk, hF d i (n + 1) als (.inl 6 :: t) σ r s h Q hQ⟩
    · exact zNo h
  | [], h => exact zNo h
  | .inl y :: t, h => exact zNo h
  | .inr (.inl y) :: t, h => exact zNo h
theorem zT_ite (c : Prop) [Decidable c] (v y : Int32) : (if c then v else y).toInt = if c then v.toInt else y.toInt := by split <;> rfl
theorem zT_iteL (c : Prop) [Decidable c] (v y : Int64) : (if c then v else y).toInt = if c then v.toInt else y.toInt := by split <;> rfl
theorem zT_min (v y : Int32) : (if v < y then v else y).toInt = if v.toInt < y.toInt then v.toInt else y.toInt := by
  rw [zT_ite]; simp only [Int32.lt_iff_toInt_lt]
theorem zT_max (v y : Int32) : (if v < y then y else v).toInt = if v.toInt < y.toInt then y.toInt else v.toInt := by
  rw [zT_ite]; simp only [Int32.lt_iff_toInt_lt]
theorem zT_maxL (v y : Int64) : (if y < v then v else y).toInt = if y.toInt < v.toInt then v.toInt else y.toInt := by
  rw [zT_iteL]; simp only [Int64.lt_iff_toInt_lt]
theorem zT_minL (v y : Int64) : (if y < v then y else v).toInt = if y.toInt < v.toInt then y.toInt else v.toInt := by
  rw [zT_iteL]; simp only [Int64.lt_iff_toInt_lt]
theorem zR_28 (hF : zH F) (hQ : ∀ r' s', r'.map zT = r → zSg s' = s → Q r' s') (h : zB_28 (zEv F) d i n (zTl als) (ast.map zT) (zSg σ) a b c tb = some (r, s)) : rvB_28 (rvWp F) d i n als ast σ Q a b c tb := by
  unfold zB_28 at h
  unfold rvB_28
  by_cases hd : d < 10
  · rw [if_pos hd] at h; exact zNo h
  rw [if_neg hd] at h
  refine ⟨by omega, ?_⟩
  split at h
  · rename_i y v t hst
    split at h
    · rename_i hk
      match ast, hst with
      | .inl y' :: .inl v' :: t', hst =>
        cases hst
        rw [zT_cat] at hk
        refine ⟨hk, hF d i (n + 1) als (.inl (if v' < y' then v' else y') :: t') σ r s ?_ Q hQ⟩
        rw [List.map_cons]
        show zEv F d i (n + 1) (zTl als) (.inl (if v' < y' then v' else y').toInt :: _) _ = _
        rw [zT_min]; exact h
    · exact zNo h
  · rename_i y v t hst
    split at h
    · rename_i hk
      match ast, hst with
      | .inl y' :: .inl v' :: t', hst =>
        cases hst
        rw [zT_cat] at hk
        refine ⟨hk, hF d i (n + 1) als (.inl (if v' < y' then y' else v') :: t') σ r s ?_ Q hQ⟩
        rw [List.map_cons]
        show zEv F d i (n + 1) (zTl als) (.inl (if v' < y' then y' else v').toInt :: _) _ = _
        rw [zT_max]; exact h
    · exact zNo h
  · rename_i y v t hst
    split at h
    · rename_i hk
      match ast, hst with
      | .inr (.inl y') :: .inr (.inl v') :: t', hst =>
        cases hst
        rw [zT_cat] at hk
        refine ⟨hk, hF d i (n + 1) als (.inr (.inl (if y' < v' then v' else y')) :: t') σ r s ?_ Q hQ⟩
        rw [List.map_cons]
        show zEv F d i (n + 1) (zTl als) (.inr (.inl (if y' < v' then v' else y').toInt) :: _) _ = _
        rw [zT_maxL]; exact h
    · exact zNo h
  · rename_i y v t hst
    split at h
    · rename_i hk
      match ast, hst with
      | .inr (.inl y') :: .inr (.inl v') :: t', hst =>
        cases hst
        rw [zT_cat] at hk
        refine ⟨hk, hF d i (n + 1) als (.inr (.inl (if y' < v' then y' else v')) :: t') σ r s ?_ Q hQ⟩
        rw [List.map_cons]
        show zEv F d i (n + 1) (zTl als) (.inr (.inl (if y' < v' then y' else v').toInt) :: _) _ = _
        rw [zT_minL]; exact h
    · exact zNo h
  · rename_i m j k2 h2 v k g t hst
    split at h
    · rename_i hk
      match ast, hst with
      | .inl m' :: .inl j' :: .inr (.inr q2) :: .inl v' :: .inr (.inr q1) :: t', hst =>
        cases hst
        rw [zT_cat] at hk
        exact ⟨hk.1, hk.2.1, hk.2.2, hF d i (n + 1) als t' _ r s (by rw [← zT_Cp]; exact h) Q hQ⟩
    · exact zNo h
  · rename_i k g t hst
    split at h
    · rename_i hk
      match ast, hst with
      | .inr (.inr q1) :: t', hst =>
        cases hst
        rw [zT_cat] at hk
        refine ⟨hk.1, hk.2, hF d i (n + 1) als (.inl (Int32.ofNat (rvSn.getD g 0)) :: t') σ r s ?_ Q hQ⟩
        rw [List.map_cons]
        show zEv F d i (n + 1) (zTl als) (.inl (rvN32 (rvSn.getD g 0) 0).toInt :: _) _ = _
        rw [zT_N32]; exact h
    · exact zNo h
  · rename_i v k g t hst
    split at h
    · rename_i hk
      match ast, hst with
      | .inl v' :: .inr (.inr q1) :: t', hst =>
        cases hst
        rw [zT_cat] at hk
        exact ⟨hk.1, hk.2.1, zIn_of hk.2.2, hF d i (n + 1) als (.inl ((rvSb.getD g []).getD v'.toInt.toNat 0) :: t') σ r s h Q hQ⟩
    · exact zNo h
  · exact zNo h
end ZBr
theorem zBr : ∀ F, zH F
  | 0 => fun d i n als ast σ r s h Q hQ => zNo h
  | F + 1 => fun d i n als ast σ r s h Q hQ => by
    have IH := zBr F
    replace h : zBody (zEv F) d i n (zTl als) (ast.map zT) (zSg σ) ((rvCode i)[n]?) = some (r, s) := h
    show rvBody (rvWp F) d i n als ast σ Q ((rvCode i)[n]?)
    cases hg : (rvCode i)[n]? with
    | none => rw [hg] at h; exact zNo h
    | some ai =>
      rw [hg] at h
      obtain ⟨pc, op, a, b, c, tb⟩ := ai
      match op, h with
      | 0, h => exact zR_0 (d := d) (als := als) (ast := ast) (i := i) (n := n) (a := a) (b := b) (c := c) (tb := tb) IH hQ h
      | 1, h => exact zR_1 (d := d) (als := als) (ast := ast) (i := i) (n := n) (a := a) (b := b) (c := c) (tb := tb) IH hQ h
      | 2, h => exact zR_2 (d := d) (als := als) (ast := ast) (i := i) (n := n) (a := a) (b := b) (c := c) (tb := tb) IH hQ h
      | 3, h => exact zR_3 (d := d) (als := als) (ast := ast) (i := i) (n := n) (a := a) (b := b) (c := c) (tb := tb) IH hQ h
      | 4, h => exact zR_4 (d := d) (als := als) (ast := ast) (i := i) (n := n) (a := a) (b := b) (c := c) (tb := tb) IH hQ h
      | 5, h => exact zR_5 (d := d) (als := als) (ast := ast) (i := i) (n := n) (a := a) (b := b) (c := c) (tb := tb) IH hQ h
      | 6, h => exact zR_6 (d := d) (als := als) (ast := ast) (i := i) (n := n) (a := a) (b := b) (c := c) (tb := tb) IH hQ h
      | 7, h => exact zR_7 (d := d) (als := als) (ast := ast) (i := i) (n := n) (a := a) (b := b) (c := c) (tb := tb) IH hQ h
      | 8, h => exact zR_8 (d := d) (als := als) (ast := ast) (i := i) (n := n) (a := a) (b := b) (c := c) (tb := tb) IH hQ h
      | 9, h => exact zR_9 (d := d) (als := als) (ast := ast) (i := i) (n := n) (a := a) (b := b) (c := c) (tb := tb) IH hQ h
      | 10, h => exact zR_10 (d := d) (als := als) (ast := ast) (i := i) (n := n) (a := a) (b := b) (c := c) (tb := tb) IH hQ h
      | 11, h => exact zR_11 (d := d) (als := als) (ast := ast) (i := i) (n := n) (a := a) (b := b) (c := c) (tb := tb) IH hQ h
      | 12, h => exact zR_12 (d := d) (als := als) (ast := ast) (i := i) (n := n) (a := a) (b := b) (c := c) (tb := tb) IH hQ h
      | 13, h => exact zR_13 (d := d) (als := als) (ast := ast) (i := i) (n := n) (a := a) (b := b) (c := c) (tb := tb) IH hQ h
      | 14, h => exact zR_14 (d := d) (als := als) (ast := ast) (i := i) (n := n) (a := a) (b := b) (c := c) (tb := tb) IH hQ h
      | 15, h => exact zR_15 (d := d) (als := als) (ast := ast) (i := i) (n := n) (a := a) (b := b) (c := c) (tb := tb) IH hQ h
      | 16, h => exact zR_16 (d := d) (als := als) (ast := ast) (i := i) (n := n) (a := a) (b := b) (c := c) (tb := tb) IH hQ h
      | 17, h => exact zR_17 (d := d) (als := als) (ast := ast) (i := i) (n := n) (a := a) (b := b) (c := c) (tb := tb) IH hQ h
      | 18, h => exact zR_18 (d := d) (als := als) (ast := ast) (i := i) (n := n) (a := a) (b := b) (c := c) (tb := tb) IH hQ h
      | 19, h => exact zR_19 (d := d) (als := als) (ast := ast) (i := i) (n := n) (a := a) (b := b) (c := c) (tb := tb) IH hQ h
      | 20, h => exact zR_20 (d := d) (als := als) (ast := ast) (i := i) (n := n) (a := a) (b := b) (c := c) (tb := tb) IH hQ h
      | 21, h => exact zR_21 (d := d) (als := als) (ast := ast) (i := i) (n := n) (a := a) (b := b) (c := c) (tb := tb) IH hQ h
      | 22, h => exact zR_22 (d := d) (als := als) (ast := ast) (i := i) (n := n) (a := a) (b := b) (c := c) (tb := tb) IH hQ h
      | 23, h => exact zR_23 (d := d) (als := als) (ast := ast) (i := i) (n := n) (a := a) (b := b) (c := c) (tb := tb) IH hQ h
      | 24, h => exact zR_24 (d := d) (als := als) (ast := ast) (i := i) (n := n) (a := a) (b := b) (c := c) (tb := tb) IH hQ h
      | 25, h => exact zR_25 (d := d) (als := als) (ast := ast) (i := i) (n := n) (a := a) (b := b) (c := c) (tb := tb) IH hQ h
      | 26, h => exact zR_26 (d := d) (als := als) (ast := ast) (i := i) (n := n) (a := a) (b := b) (c := c) (tb := tb) IH hQ h
      | 27, h => exact zR_27 (d := d) (als := als) (ast := ast) (i := i) (n := n) (a := a) (b := b) (c := c) (tb := tb) IH hQ h
      | 28, h => exact zR_28 (d := d) (als := als) (ast := ast) (i := i) (n := n) (a := a) (b := b) (c := c) (tb := tb) IH hQ h
      | 29, h => exact zR_29 (d := d) (als := als) (ast := ast) (i := i) (n := n) (a := a) (b := b) (c := c) (tb := tb) IH hQ h
      | 30, h => exact zR_30 (d := d) (als := als) (ast := ast) (i := i) (n := n) (a := a) (b := b) (c := c) (tb := tb) IH hQ h
      | 31, h => exact zNo h
      | 32, h => exact zNo h
      | 33, h => exact zR_33 (d := d) (als := als) (ast := ast) (i := i) (n := n) (a := a) (b := b) (c := c) (tb := tb) IH hQ h
      | 34, h => exact zR_34 (d := d) (als := als) (ast := ast) (i := i) (n := n) (a := a) (b := b) (c := c) (tb := tb) IH hQ h
      | op + 35, h => exact zNo h
