-- the machine follows the small machine: whole
theorem rvPc_of {i n : Nat} {ai : rvI} (h : (rvCode i)[n]? = some ai) : ai.1 = rvPc i n := by
  unfold rvPc
  rw [List.getD_eq_getElem?_getD, h]
  rfl
theorem rvCk_of {i n : Nat} {ai : rvI} (hi : i < 192) (h : (rvCode i)[n]? = some ai) : rvCk i n ai = true := by
  have h2 := rvCk_at hi (List.getElem?_eq_some_iff.mp h).1
  rw [List.getD_eq_getElem?_getD, h] at h2
  exact h2
theorem rvP0 : ∀ i, i < 191 → rvPc i 0 = 0 := by
  have h0 : (List.range 191).all (fun i => decide (rvPc i 0 = 0)) = true := by decide +kernel
  intro i hi
  exact of_decide_eq_true (List.all_eq_true.mp h0 i (List.mem_range.mpr hi))
theorem rvSound (l : Launch) (hS9 : rvStrLaw l) : ∀ F, rvHyp l F
  | 0 => fun d i n als ast σ Q hi h => False.elim h
  | F + 1 => fun d i n als ast σ Q hi h => by
    have IH := rvSound l hS9 F
    replace h : rvBody (rvWp F) d i n als ast σ Q ((rvCode i)[n]?) := h
    cases hg : (rvCode i)[n]? with
    | none => rw [hg] at h; exact False.elim h
    | some ai =>
      have hck := rvCk_of hi hg
      have hpc := rvPc_of hg
      rw [hg] at h
      obtain ⟨pc, op, a, b, c, tb⟩ := ai
      replace hpc : pc = rvPc i n := hpc
      subst hpc
      match op, h, hck with
      | 0, h, hck => exact rvC_0 IH d i n als ast σ Q a b c tb hi hck h
      | 1, h, hck => exact rvC_1 IH d i n als ast σ Q a b c tb hi hck h
      | 2, h, hck => exact rvC_2 IH d i n als ast σ Q a b c tb hi hck h
      | 3, h, hck => exact rvC_3 IH d i n als ast σ Q a b c tb hi hck h
      | 4, h, hck => exact rvC_4 IH d i n als ast σ Q a b c tb hi hck h
      | 5, h, hck => exact rvC_5 IH d i n als ast σ Q a b c tb hi hck h
      | 6, h, hck => exact rvC_6 IH d i n als ast σ Q a b c tb hi hck h
      | 7, h, hck => exact rvC_7 IH d i n als ast σ Q a b c tb hi hck h
      | 8, h, hck => exact rvC_8 IH d i n als ast σ Q a b c tb hi hck h
      | 9, h, hck => exact rvC_9 IH d i n als ast σ Q a b c tb hi hck h
      | 10, h, hck => exact rvC_10 IH d i n als ast σ Q a b c tb hi hck h
      | 11, h, hck => exact rvC_11 IH d i n als ast σ Q a b c tb hi hck h
      | 12, h, hck => exact rvC_12 IH d i n als ast σ Q a b c tb hi hck h
      | 13, h, hck => exact rvC_13 IH d i n als ast σ Q a b c tb hi hck h
      | 14, h, hck => exact rvC_14 IH d i n als ast σ Q a b c tb hi hck h
      | 15, h, hck => exact rvC_15 IH d i n als ast σ Q a b c tb hi hck h
      | 16, h, hck => exact rvC_16 IH d i n als ast σ Q a b c tb hi hck h
      | 17, h, hck => exact rvC_17 IH d i n als ast σ Q a b c tb hi hck h
      | 18, h, hck => exact rvC_18 IH d i n als ast σ Q a b c tb hi hck h
      | 19, h, hck => exact rvC_19 IH d i n als ast σ Q a b c tb hi hck h
      | 20, h, hck => exact rvC_20 IH d i n als ast σ Q a b c tb hi hck h
      | 21, h, hck => exact rvC_21 IH d i n als ast σ Q a b c tb hi hck h
      | 22, h, hck => exact rvC_22 IH d i n als ast σ Q a b c tb hi hck h
      | 23, h, hck => exact rvC_23 IH rvCd rvP0 d i n als ast σ Q a b c tb hi hck h
      | 24, h, hck => exact rvC_24 IH d i n als ast σ Q a b c tb hi hck h
      | 25, h, hck => exact rvC_25 IH d i n als ast σ Q a b c tb hi hck h
      | 26, h, hck => exact rvC_26 IH d i n als ast σ Q a b c tb hi hck h
      | 27, h, hck => exact rvC_27 IH d i n als ast σ Q a b c tb hi hck h
      | 28, h, hck => exact rvC_28 IH hS9 d i n als ast σ Q a b c tb hi hck h
      | 29, h, hck => exact rvC_29 IH d i n als ast σ Q a b c tb hi hck h
      | 30, h, hck => exact rvC_30 IH d i n als ast σ Q a b c tb hi hck h
      | 31, h, hck => exact False.elim h
      | 32, h, hck => exact False.elim h
      | 33, h, hck => exact rvC_33 IH d i n als ast σ Q a b c tb hi hck h
      | 34, h, hck => exact rvC_34 IH d i n als ast σ Q a b c tb hi hck h
      | op + 35, h, hck => exact False.elim h
