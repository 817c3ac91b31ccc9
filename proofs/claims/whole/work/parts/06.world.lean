-- the machine follows the small machine: the world, and what holds of a frame
def rvTr (A : Nat → Nat → Nat) : rvV → Value
  | .inl v => .int v
  | .inr (.inl v) => .long v
  | .inr (.inr q) => .ref (A q.1 q.2)
def rvOk : rvV → Prop
  | .inr (.inr q) => q.2 < (rvK q.1).2.2
  | _ => True
def rvTy : Nat → FieldType
  | 1 => .int
  | 2 => .long
  | 3 => .byte
  | 4 => .boolean
  | 5 => .object "RiverCompact$Hold"
  | 6 => .object "RiverCompact$HoldRows"
  | 7 => .object "RiverCompact$Lake"
  | 8 => .object "RiverCompact$ReachRows"
  | 9 => .object "RiverCompact$Sheet"
  | _ => .object "RiverCompact$Text"
def rvTys (cA : Nat → ClassId) : List (ClassId × FieldType) := (List.range 10).map (fun t => (cA (t + 1), rvTy (t + 1)))
def rvFv (A : Nat → Nat → Nat) (σ : rvS) (k n j : Nat) : Value := match rvFt k j with
  | 2 => .ref (A (rvTg k n j).1 (rvTg k n j).2)
  | _ => .int (σ.1 k n j)
def rvEnt (A : Nat → Nat → Nat) (cA : Nat → ClassId) (σ : rvS) (q : Nat × Nat) : va_E := match (rvK q.1).1 with
  | 0 => .inr (q.1, (List.range (rvFts.getD q.1 []).length).map (fun j => rvFv A σ q.1 q.2 j))
  | 1 => .inl (cA 1, (rvK q.1).2.1, .inl (σ.1 q.1 q.2))
  | 2 => .inl (cA 2, (rvK q.1).2.1, .inr (.inl (σ.2 q.1 q.2)))
  | 3 => .inl (cA 3, (rvK q.1).2.1, .inl (σ.1 q.1 q.2))
  | 4 => .inl (cA 4, (rvK q.1).2.1, .inl (σ.1 q.1 q.2))
  | t => .inl (cA t, (rvK q.1).2.1, .inr (.inr (.inr (.inr (fun j => some (A (rvTg q.1 q.2 j).1 (rvTg q.1 q.2 j).2))))))
def rvCells : List (Nat × Nat) := (List.range 105).flatMap (fun k => (List.range (rvK k).2.2).map (fun n => (k, n)))
def rvWs (A : Nat → Nat → Nat) (cA : Nat → ClassId) (σ : rvS) : va_W := rvCells.map (fun q => (A q.1 q.2, rvEnt A cA σ q))
theorem rvCells_mem {k n : Nat} : (k, n) ∈ rvCells ↔ k < 105 ∧ n < (rvK k).2.2 := by
  simp only [rvCells, List.mem_flatMap, List.mem_range, List.mem_map, Prod.mk.injEq]
  constructor
  · rintro ⟨k', h1, n', h2, rfl, rfl⟩; exact ⟨h1, h2⟩
  · rintro ⟨h1, h2⟩; exact ⟨k, h1, n, h2, rfl, rfl⟩
theorem rvWs_get (A : Nat → Nat → Nat) (cA : Nat → ClassId) (σ : rvS) {k n : Nat} (hk : k < 105) (hn : n < (rvK k).2.2) : ∃ q0 : Nat, rvCells[q0]? = some (k, n) ∧ (rvWs A cA σ)[q0]? = some (A k n, rvEnt A cA σ (k, n)) := by
  obtain ⟨q0, h⟩ := List.getElem?_of_mem (rvCells_mem.mpr ⟨hk, hn⟩)
  exact ⟨q0, h, by rw [rvWs, List.getElem?_map, h]; rfl⟩
/-- one cell is another: the world with it -/
theorem rvWs_set {A : Nat → Nat → Nat} {cA : Nat → ClassId} {σ σ' : rvS} {A0 : Nat → Prop} {q0 k n : Nat} {e : va_E} (hD : va_D A0 (rvWs A cA σ)) (h0 : rvCells[q0]? = some (k, n)) (he : rvEnt A cA σ' (k, n) = e) (ho : ∀ q : Nat × Nat, q ≠ (k, n) → rvEnt A cA σ' q = rvEnt A cA σ q) : (rvWs A cA σ).set q0 (A k n, e) = rvWs A cA σ' := by
  apply List.ext_getElem?
  intro j
  have hq0 : (rvWs A cA σ)[q0]? = some (A k n, rvEnt A cA σ (k, n)) := by rw [rvWs, List.getElem?_map, h0]; rfl
  by_cases hj : j = q0
  · subst hj
    rw [List.getElem?_set_self (List.getElem?_eq_some_iff.mp hq0).1]
    rw [rvWs, List.getElem?_map, h0]
    simp only [Option.map_some, he]
  · rw [List.getElem?_set_ne (Ne.symm hj)]
    rw [rvWs, rvWs, List.getElem?_map, List.getElem?_map]
    cases hc : rvCells[j]? with
    | none => rfl
    | some q =>
      have hne : q ≠ (k, n) := by
        intro hq
        subst hq
        have hj0 : (rvWs A cA σ)[j]? = some (A k n, rvEnt A cA σ (k, n)) := by rw [rvWs, List.getElem?_map, hc]; rfl
        exact hj (hD.1 j q0 _ _ hj0 hq0 rfl)
      simp only [Option.map_some, ho q hne]
theorem rvD_addr {A : Nat → Nat → Nat} {cA : Nat → ClassId} {σ σ' : rvS} {A0 : Nat → Prop} (hD : va_D A0 (rvWs A cA σ)) : va_D A0 (rvWs A cA σ') := by
  have key : ∀ (k : Nat) (q : Nat × va_E), (rvWs A cA σ')[k]? = some q → ∃ q0, (rvWs A cA σ)[k]? = some q0 ∧ q0.1 = q.1 := by
    intro k q hk
    rw [rvWs, List.getElem?_map] at hk
    cases hc : rvCells[k]? with
    | none => rw [hc] at hk; cases hk
    | some c =>
      rw [hc] at hk
      cases hk
      exact ⟨(A c.1 c.2, rvEnt A cA σ c), by rw [rvWs, List.getElem?_map, hc]; rfl, rfl⟩
  refine ⟨fun i j x y hi hj hxy => ?_, fun k q hk => ?_⟩
  · obtain ⟨x0, h1, h2⟩ := key i x hi
    obtain ⟨y0, h3, h4⟩ := key j y hj
    exact hD.1 i j x0 y0 h1 h3 (h2.trans (hxy.trans h4.symm))
  · obtain ⟨q0, h1, h2⟩ := key k q hk
    rw [← h2]
    exact hD.2 k q0 h1
/-- the cells that a method may change: all of the world's, and new ones -/
def rvAd (A : Nat → Nat → Nat) (sz : Nat) : Nat → Prop := fun q => (∃ k n, k < 105 ∧ n < (rvK k).2.2 ∧ q = A k n) ∨ sz ≤ q
theorem rvAd_self {A : Nat → Nat → Nat} {cA : Nat → ClassId} {σ : rvS} {A0 : Nat → Prop} {sz : Nat} (hD : va_D A0 (rvWs A cA σ)) : va_D (rvAd A sz) (rvWs A cA σ) := by
  refine ⟨hD.1, fun k q hk => ?_⟩
  rw [rvWs, List.getElem?_map] at hk
  cases hc : rvCells[k]? with
  | none => rw [hc] at hk; cases hk
  | some c =>
    rw [hc] at hk
    cases hk
    obtain ⟨h1, h2⟩ := rvCells_mem.mp (List.mem_of_getElem? hc)
    exact Or.inl ⟨c.1, c.2, h1, h2, rfl⟩
theorem rvAd_in {A : Nat → Nat → Nat} {cA : Nat → ClassId} {σ : rvS} {A0 : Nat → Prop} {sz : Nat} (hD : va_D A0 (rvWs A cA σ)) (hA : ∀ q, sz ≤ q → A0 q) : ∀ q, rvAd A sz q → A0 q := by
  intro q h
  rcases h with ⟨k, n, hk, hn, rfl⟩ | h
  · obtain ⟨q0, -, h2⟩ := rvWs_get A cA σ hk hn
    exact hD.2 q0 _ h2
  · exact hA q h
theorem rvK_hi {k : Nat} (h : (rvK k).1 ≤ 10) : k < 105 := by
  by_cases hk : k < 105
  · exact hk
  · exfalso
    by_cases h2 : k < 109
    · rcases (show k = 105 ∨ k = 106 ∨ k = 107 ∨ k = 108 by omega) with rfl | rfl | rfl | rfl <;> revert h <;> decide
    · have e : rvK k = (99, 0, 0) := by
        rw [rvK, List.getD_eq_getElem?_getD, List.getElem?_eq_none (by show rvKs.length ≤ k; have : rvKs.length = 109 := by decide +kernel
                                                                       omega)]
        rfl
      rw [e] at h
      exact absurd h (by decide)
theorem rvFt_in {k j t : Nat} (h : rvFt k j = t) (ht : t ≠ 9) : k < 11 ∧ j < (rvFts.getD k []).length := by
  have hl : rvFts.length = 11 := by decide +kernel
  constructor
  · by_cases hk : k < 11
    · exact hk
    · exfalso
      rw [rvFt, List.getD_eq_getElem?_getD (l := rvFts), List.getElem?_eq_none (by omega)] at h
      exact ht h.symm
  · by_cases hj : j < (rvFts.getD k []).length
    · exact hj
    · exfalso
      rw [rvFt, List.getD_eq_getElem?_getD (l := rvFts.getD k []), List.getElem?_eq_none (by omega)] at h
      exact ht h.symm
theorem rvK_obj : ∀ k, k < 11 → (rvK k).1 = 0 := by decide +kernel
def rvObjOk (k : Nat) : Bool := match vwCl[k]? with
  | some q => decide (q.2.2 = (rvFts.getD k []).length) && (List.range q.2.2).all (fun j => match rvFt k j with
    | 0 => decide ((q.2.1 j).2.2.1 = "I" ∧ (q.2.1 j).2.2.2 = false)
    | 1 => decide ((q.2.1 j).2.2.1 = "Z" ∧ (q.2.1 j).2.2.2 = false)
    | _ => decide (∀ n, n < (rvK k).2.2 → (rvTg k n j).2 < (rvK (rvTg k n j).1).2.2))
  | none => false
theorem rvObj_ok : (List.range 11).all rvObjOk = true := by decide +kernel
def rvArrOk (k : Nat) : Bool := if 5 ≤ (rvK k).1 ∧ (rvK k).1 ≤ 10 then decide (11 ≤ k) && ((rvRks.getD (rvK k).1 (0, 0)).2 == (rvK k).2.1 && decide ((rvRks.getD (rvK k).1 (0, 0)).2 * (rvK k).2.2 ≤ (rvK (rvRks.getD (rvK k).1 (0, 0)).1).2.2)) else true
theorem rvArr_ok : (List.range 105).all rvArrOk = true := by decide +kernel
theorem rvTg_field {k n j : Nat} (h : rvFt k j = 2) (hn : n < (rvK k).2.2) : rvOk (.inr (.inr (rvTg k n j))) := by
  obtain ⟨hk, hj⟩ := rvFt_in h (by decide)
  have h1 := List.all_eq_true.mp rvObj_ok k (List.mem_range.mpr hk)
  unfold rvObjOk at h1
  cases hq : vwCl[k]? with
  | none => rw [hq] at h1; cases h1
  | some q =>
    rw [hq] at h1
    simp only [Bool.and_eq_true, decide_eq_true_eq] at h1
    have h2 := List.all_eq_true.mp h1.2 j (List.mem_range.mpr (by omega))
    rw [h] at h2
    exact of_decide_eq_true h2 n hn
theorem rvTg_arr {k n j : Nat} (h : 5 ≤ (rvK k).1 ∧ (rvK k).1 ≤ 10) (hn : n < (rvK k).2.2) (hj : j < (rvK k).2.1) : rvOk (.inr (.inr (rvTg k n j))) := by
  have hk := rvK_hi h.2
  have h1 := List.all_eq_true.mp rvArr_ok k (List.mem_range.mpr hk)
  rw [rvArrOk, if_pos h] at h1
  simp only [Bool.and_eq_true, decide_eq_true_eq, beq_iff_eq] at h1
  obtain ⟨h2, h3, h4⟩ := h1
  show (rvTg k n j).2 < (rvK (rvTg k n j).1).2.2
  have e : rvTg k n j = ((rvRks.getD (rvK k).1 (0, 0)).1, (rvRks.getD (rvK k).1 (0, 0)).2 * n + j) := by
    unfold rvTg
    rw [if_neg (by omega)]
  rw [e]
  show (rvRks.getD (rvK k).1 (0, 0)).2 * n + j < (rvK (rvRks.getD (rvK k).1 (0, 0)).1).2.2
  have h5 : (rvRks.getD (rvK k).1 (0, 0)).2 * (n + 1) ≤ (rvRks.getD (rvK k).1 (0, 0)).2 * (rvK k).2.2 := Nat.mul_le_mul_left _ hn
  rw [Nat.mul_succ] at h5
  omega
-- locals
def rvLR (A : Nat → Nat → Nat) (nL : Nat) (als : rvL) (ls : Array Slot) : Prop := ls.size = nL ∧ lv_wf ls ∧ ∀ (j : Nat) (w : rvV), als[j]? = some (some w) → ls[j]? = some (.val (rvTr A w))
def rvPr (A : Nat → Nat → Nat) (als : rvL) : List (Nat × Value) := (List.range als.length).filterMap (fun j => match als[j]? with
  | some (some w) => some (j, rvTr A w)
  | _ => none)
theorem rvPr_mem {A : Nat → Nat → Nat} {als : rvL} {j : Nat} {w : rvV} (h : als[j]? = some (some w)) : (j, rvTr A w) ∈ rvPr A als := by
  refine List.mem_filterMap.mpr ⟨j, List.mem_range.mpr (List.getElem?_eq_some_iff.mp h).1, ?_⟩
  rw [h]
theorem rvPr_of {A : Nat → Nat → Nat} {als : rvL} {q : Nat × Value} (h : q ∈ rvPr A als) : ∃ w, als[q.1]? = some (some w) ∧ q.2 = rvTr A w := by
  obtain ⟨j, -, h2⟩ := List.mem_filterMap.mp h
  split at h2
  · rename_i w hw
    cases h2
    exact ⟨w, hw, rfl⟩
  · cases h2
theorem rvLR_has {A : Nat → Nat → Nat} {nL : Nat} {als : rvL} {ls : Array Slot} (h : rvLR A nL als ls) : lv_has ls nL (rvPr A als) := by
  refine ⟨h.1, h.2.1, fun q hq => ?_⟩
  obtain ⟨w, h1, h2⟩ := rvPr_of hq
  rw [h2]
  exact h.2.2 _ _ h1
def rvCt : rvV → Nat
  | .inr (.inl _) => 2
  | _ => 1
theorem rvCt_tr (A : Nat → Nat → Nat) (v : rvV) : (rvTr A v).category = rvCt v := by
  rcases v with v | v | v <;> rfl
theorem rvCat_tr (A : Nat → Nat → Nat) : ∀ (st : List rvV), ((st.map (rvTr A)).map fun v => v.category).sum = rvCat st
  | [] => rfl
  | .inl v :: r => by
    have h := rvCat_tr A r
    simp only [List.map_cons, List.sum_cons, rvCat, rvTr, h]
    rfl
  | .inr (.inl v) :: r => by
    have h := rvCat_tr A r
    simp only [List.map_cons, List.sum_cons, rvCat, rvTr, h]
    rfl
  | .inr (.inr v) :: r => by
    have h := rvCat_tr A r
    simp only [List.map_cons, List.sum_cons, rvCat, rvTr, h]
    rfl
theorem rvKill_some {o : Option rvV} {w : rvV} (h : rvKill o = some w) : o = some w ∧ ¬ rvCt w = 2 := by
  match o, h with
  | some (.inl v), h => cases h; exact ⟨rfl, fun q => absurd q (by simp [rvCt])⟩
  | some (.inr (.inr v)), h => cases h; exact ⟨rfl, fun q => absurd q (by simp [rvCt])⟩
  | some (.inr (.inl v)), h => cases h
  | none, h => cases h
theorem rvSt1_at : ∀ (als : rvL) (i : Nat) (v : rvV) (j : Nat) (w : rvV), (rvSt1 als i v)[j]? = some (some w) → (j = i ∧ w = v) ∨ (¬ j = i ∧ als[j]? = some (some w) ∧ ¬ (j + 1 = i ∧ rvCt w = 2))
  | [], i, v, j, w, h => by simp [rvSt1] at h
  | y :: r, 0, v, 0, w, h => by
    simp only [rvSt1, List.getElem?_cons_zero, Option.some.injEq] at h
    exact Or.inl ⟨rfl, h.symm⟩
  | y :: r, 0, v, j + 1, w, h => by
    simp only [rvSt1, List.getElem?_cons_succ] at h
    exact Or.inr ⟨by omega, by simpa using h, by omega⟩
  | y :: r, 1, v, 0, w, h => by
    simp only [rvSt1, List.getElem?_cons_zero, Option.some.injEq] at h
    obtain ⟨h1, h2⟩ := rvKill_some h
    exact Or.inr ⟨by omega, by rw [List.getElem?_cons_zero, h1], fun q => h2 q.2⟩
  | y :: r, 1, v, j + 1, w, h => by
    simp only [rvSt1, List.getElem?_cons_succ] at h
    rcases rvSt1_at r 0 v j w h with ⟨h1, h2⟩ | ⟨h1, h2, h3⟩
    · exact Or.inl ⟨by omega, h2⟩
    · exact Or.inr ⟨by omega, by simpa using h2, fun q => h3 ⟨by omega, q.2⟩⟩
  | y :: r, i + 2, v, 0, w, h => by
    simp only [rvSt1, List.getElem?_cons_zero, Option.some.injEq] at h
    exact Or.inr ⟨by omega, by rw [List.getElem?_cons_zero, h], by omega⟩
  | y :: r, i + 2, v, j + 1, w, h => by
    simp only [rvSt1, List.getElem?_cons_succ] at h
    rcases rvSt1_at r (i + 1) v j w h with ⟨h1, h2⟩ | ⟨h1, h2, h3⟩
    · exact Or.inl ⟨by omega, h2⟩
    · exact Or.inr ⟨by omega, by simpa using h2, fun q => h3 ⟨by omega, q.2⟩⟩
theorem rvSt2_at : ∀ (als : rvL) (i : Nat) (v : rvV) (j : Nat) (w : rvV), (rvSt2 als i v)[j]? = some (some w) → (j = i ∧ w = v) ∨ (¬ j = i ∧ ¬ j = i + 1 ∧ als[j]? = some (some w) ∧ ¬ (j + 1 = i ∧ rvCt w = 2))
  | [], i, v, j, w, h => by simp [rvSt2] at h
  | [y], 0, v, j, w, h => by simp [rvSt2] at h
  | y :: z :: r, 0, v, 0, w, h => by
    simp only [rvSt2, List.getElem?_cons_zero, Option.some.injEq] at h
    exact Or.inl ⟨rfl, h.symm⟩
  | y :: z :: r, 0, v, 1, w, h => by
    simp [rvSt2] at h
  | y :: z :: r, 0, v, j + 2, w, h => by
    simp only [rvSt2, List.getElem?_cons_succ] at h
    exact Or.inr ⟨by omega, by omega, by simpa using h, by omega⟩
  | y :: r, 1, v, 0, w, h => by
    simp only [rvSt2, List.getElem?_cons_zero, Option.some.injEq] at h
    obtain ⟨h1, h2⟩ := rvKill_some h
    exact Or.inr ⟨by omega, by omega, by rw [List.getElem?_cons_zero, h1], fun q => h2 q.2⟩
  | y :: r, 1, v, j + 1, w, h => by
    simp only [rvSt2, List.getElem?_cons_succ] at h
    rcases rvSt2_at r 0 v j w h with ⟨h1, h2⟩ | ⟨h1, h2, h3, h4⟩
    · exact Or.inl ⟨by omega, h2⟩
    · exact Or.inr ⟨by omega, by omega, by simpa using h3, fun q => h4 ⟨by omega, q.2⟩⟩
  | y :: r, i + 2, v, 0, w, h => by
    simp only [rvSt2, List.getElem?_cons_zero, Option.some.injEq] at h
    exact Or.inr ⟨by omega, by omega, by rw [List.getElem?_cons_zero, h], by omega⟩
  | y :: r, i + 2, v, j + 1, w, h => by
    simp only [rvSt2, List.getElem?_cons_succ] at h
    rcases rvSt2_at r (i + 1) v j w h with ⟨h1, h2⟩ | ⟨h1, h2, h3, h4⟩
    · exact Or.inl ⟨by omega, h2⟩
    · exact Or.inr ⟨by omega, by omega, by simpa using h3, fun q => h4 ⟨by omega, q.2⟩⟩
theorem rvLR_st1 {A : Nat → Nat → Nat} {nL : Nat} {als : rvL} {ls' : Array Slot} {i : Nat} {v : rvV} (h : lv_has ls' nL ((i, rvTr A v) :: (rvPr A als).filter (fun q => !(q.1 == i) && !(q.1 + 1 == i && q.2.category == 2)))) : rvLR A nL (rvSt1 als i v) ls' := by
  refine ⟨h.1, h.2.1, fun j w hj => ?_⟩
  rcases rvSt1_at als i v j w hj with ⟨rfl, rfl⟩ | ⟨h1, h2, h3⟩
  · exact h.2.2 _ List.mem_cons_self
  · refine h.2.2 (j, rvTr A w) (List.mem_cons_of_mem _ (List.mem_filter.mpr ⟨rvPr_mem h2, ?_⟩))
    rw [rvCt_tr]
    simp only [Bool.and_eq_true, Bool.not_eq_true', beq_eq_false_iff_ne, ne_eq, Bool.and_eq_false_imp, beq_iff_eq]
    exact ⟨h1, fun e => fun e2 => h3 ⟨e, e2⟩⟩
theorem rvLR_st2 {A : Nat → Nat → Nat} {nL : Nat} {als : rvL} {ls' : Array Slot} {i : Nat} {v : rvV} (h : lv_has ls' nL ((i, rvTr A v) :: (rvPr A als).filter (fun q => !(q.1 == i) && (!(q.1 == i + 1) && !(q.1 + 1 == i && q.2.category == 2))))) : rvLR A nL (rvSt2 als i v) ls' := by
  refine ⟨h.1, h.2.1, fun j w hj => ?_⟩
  rcases rvSt2_at als i v j w hj with ⟨rfl, rfl⟩ | ⟨h1, h2, h3, h4⟩
  · exact h.2.2 _ List.mem_cons_self
  · refine h.2.2 (j, rvTr A w) (List.mem_cons_of_mem _ (List.mem_filter.mpr ⟨rvPr_mem h3, ?_⟩))
    rw [rvCt_tr]
    simp only [Bool.and_eq_true, Bool.not_eq_true', beq_eq_false_iff_ne, ne_eq, Bool.and_eq_false_imp, beq_iff_eq]
    exact ⟨h1, h2, fun e => fun e2 => h4 ⟨e, e2⟩⟩
def rvOks (als : rvL) : Prop := ∀ (j : Nat) (w : rvV), als[j]? = some (some w) → rvOk w
theorem rvOks_st1 {als : rvL} {i : Nat} {v : rvV} (h : rvOks als) (hv : rvOk v) : rvOks (rvSt1 als i v) := by
  intro j w hj
  rcases rvSt1_at als i v j w hj with ⟨rfl, rfl⟩ | ⟨-, h2, -⟩
  · exact hv
  · exact h j w h2
theorem rvOks_st2 {als : rvL} {i : Nat} {v : rvV} (h : rvOks als) (hv : rvOk v) : rvOks (rvSt2 als i v) := by
  intro j w hj
  rcases rvSt2_at als i v j w hj with ⟨rfl, rfl⟩ | ⟨-, -, h2, -⟩
  · exact hv
  · exact h j w h2
