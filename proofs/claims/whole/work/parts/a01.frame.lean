-- no method writes the script (wip/whole/gen/laws73.py)
def zKeep (rec : zR) : Prop := ∀ d i n ls st σ r s, rec d i n ls st σ = some (r, s) → s.1 108 = σ.1 108
theorem zFr_U {σ : zS} {k n j : Nat} {v : Int} (h : ¬ k = 108) : (zU σ k n j v).1 108 = σ.1 108 := by
  refine funext fun m => funext fun i => ?_
  show (if 108 = k ∧ i = j ∧ m = n then v else σ.1 108 m i) = _
  exact if_neg (fun q => h q.1.symm)
theorem zFr_K {k c : Nat} (h : (rvK k).1 = c) (hc : c ≤ 4) : ¬ k = 108 := fun e => by
  subst e
  have x : (rvK 108).1 = 11 := rfl
  omega
theorem zFr_F {a b : Nat} {v : Int} (h : zFld (rvFt a b) v = true) : ¬ a = 108 := fun e => by
  subst e
  have x : rvFt 108 b = 9 := rfl
  rw [x] at h
  cases h
theorem zFr_0 {rec : zR} (hr : zKeep rec) {d i n : Nat} {ls : zL} {st : List zV} {σ : zS} {a b c : Nat} {tb : List Nat} {r s} (h : zB_0 rec d i n ls st σ a b c tb = some (r, s)) : s.1 108 = σ.1 108 := by
  unfold zB_0 at h
  (repeat' split at h) <;> first | exact hr _ _ _ _ _ _ _ _ h | (cases h; rfl) | cases h
theorem zFr_1 {rec : zR} (hr : zKeep rec) {d i n : Nat} {ls : zL} {st : List zV} {σ : zS} {a b c : Nat} {tb : List Nat} {r s} (h : zB_1 rec d i n ls st σ a b c tb = some (r, s)) : s.1 108 = σ.1 108 := by
  unfold zB_1 at h
  (repeat' split at h) <;> first | exact hr _ _ _ _ _ _ _ _ h | (cases h; rfl) | cases h
theorem zFr_2 {rec : zR} (hr : zKeep rec) {d i n : Nat} {ls : zL} {st : List zV} {σ : zS} {a b c : Nat} {tb : List Nat} {r s} (h : zB_2 rec d i n ls st σ a b c tb = some (r, s)) : s.1 108 = σ.1 108 := by
  unfold zB_2 at h
  (repeat' split at h) <;> first | exact hr _ _ _ _ _ _ _ _ h | (cases h; rfl) | cases h
theorem zFr_3 {rec : zR} (hr : zKeep rec) {d i n : Nat} {ls : zL} {st : List zV} {σ : zS} {a b c : Nat} {tb : List Nat} {r s} (h : zB_3 rec d i n ls st σ a b c tb = some (r, s)) : s.1 108 = σ.1 108 := by
  unfold zB_3 at h
  (repeat' split at h) <;> first | exact hr _ _ _ _ _ _ _ _ h | (cases h; rfl) | cases h
theorem zFr_4 {rec : zR} (hr : zKeep rec) {d i n : Nat} {ls : zL} {st : List zV} {σ : zS} {a b c : Nat} {tb : List Nat} {r s} (h : zB_4 rec d i n ls st σ a b c tb = some (r, s)) : s.1 108 = σ.1 108 := by
  unfold zB_4 at h
  (repeat' split at h) <;> first | exact hr _ _ _ _ _ _ _ _ h | (cases h; rfl) | cases h
theorem zFr_5 {rec : zR} (hr : zKeep rec) {d i n : Nat} {ls : zL} {st : List zV} {σ : zS} {a b c : Nat} {tb : List Nat} {r s} (h : zB_5 rec d i n ls st σ a b c tb = some (r, s)) : s.1 108 = σ.1 108 := by
  unfold zB_5 at h
  (repeat' split at h) <;> first | exact hr _ _ _ _ _ _ _ _ h | (cases h; rfl) | cases h
theorem zFr_6 {rec : zR} (hr : zKeep rec) {d i n : Nat} {ls : zL} {st : List zV} {σ : zS} {a b c : Nat} {tb : List Nat} {r s} (h : zB_6 rec d i n ls st σ a b c tb = some (r, s)) : s.1 108 = σ.1 108 := by
  unfold zB_6 at h
  (repeat' split at h) <;> first | exact hr _ _ _ _ _ _ _ _ h | (cases h; rfl) | cases h
theorem zFr_7 {rec : zR} (hr : zKeep rec) {d i n : Nat} {ls : zL} {st : List zV} {σ : zS} {a b c : Nat} {tb : List Nat} {r s} (h : zB_7 rec d i n ls st σ a b c tb = some (r, s)) : s.1 108 = σ.1 108 := by
  unfold zB_7 at h
  (repeat' split at h) <;> first | exact hr _ _ _ _ _ _ _ _ h | (cases h; rfl) | cases h
theorem zFr_8 {rec : zR} (hr : zKeep rec) {d i n : Nat} {ls : zL} {st : List zV} {σ : zS} {a b c : Nat} {tb : List Nat} {r s} (h : zB_8 rec d i n ls st σ a b c tb = some (r, s)) : s.1 108 = σ.1 108 := by
  unfold zB_8 at h
  (repeat' split at h) <;> first | exact hr _ _ _ _ _ _ _ _ h | (cases h; rfl) | cases h
theorem zFr_9 {rec : zR} (hr : zKeep rec) {d i n : Nat} {ls : zL} {st : List zV} {σ : zS} {a b c : Nat} {tb : List Nat} {r s} (h : zB_9 rec d i n ls st σ a b c tb = some (r, s)) : s.1 108 = σ.1 108 := by
  unfold zB_9 at h
  (repeat' split at h) <;> first | exact hr _ _ _ _ _ _ _ _ h | (cases h; rfl) | cases h
theorem zFr_10 {rec : zR} (hr : zKeep rec) {d i n : Nat} {ls : zL} {st : List zV} {σ : zS} {a b c : Nat} {tb : List Nat} {r s} (h : zB_10 rec d i n ls st σ a b c tb = some (r, s)) : s.1 108 = σ.1 108 := by
  unfold zB_10 at h
  (repeat' split at h) <;> first | exact hr _ _ _ _ _ _ _ _ h | (cases h; rfl) | cases h
theorem zFr_12 {rec : zR} (hr : zKeep rec) {d i n : Nat} {ls : zL} {st : List zV} {σ : zS} {a b c : Nat} {tb : List Nat} {r s} (h : zB_12 rec d i n ls st σ a b c tb = some (r, s)) : s.1 108 = σ.1 108 := by
  unfold zB_12 at h
  (repeat' split at h) <;> first | exact hr _ _ _ _ _ _ _ _ h | (cases h; rfl) | cases h
theorem zFr_14 {rec : zR} (hr : zKeep rec) {d i n : Nat} {ls : zL} {st : List zV} {σ : zS} {a b c : Nat} {tb : List Nat} {r s} (h : zB_14 rec d i n ls st σ a b c tb = some (r, s)) : s.1 108 = σ.1 108 := by
  unfold zB_14 at h
  (repeat' split at h) <;> first | exact hr _ _ _ _ _ _ _ _ h | (cases h; rfl) | cases h
theorem zFr_15 {rec : zR} (hr : zKeep rec) {d i n : Nat} {ls : zL} {st : List zV} {σ : zS} {a b c : Nat} {tb : List Nat} {r s} (h : zB_15 rec d i n ls st σ a b c tb = some (r, s)) : s.1 108 = σ.1 108 := by
  unfold zB_15 at h
  (repeat' split at h) <;> first | exact hr _ _ _ _ _ _ _ _ h | (cases h; rfl) | cases h
theorem zFr_16 {rec : zR} (hr : zKeep rec) {d i n : Nat} {ls : zL} {st : List zV} {σ : zS} {a b c : Nat} {tb : List Nat} {r s} (h : zB_16 rec d i n ls st σ a b c tb = some (r, s)) : s.1 108 = σ.1 108 := by
  unfold zB_16 at h
  (repeat' split at h) <;> first | exact hr _ _ _ _ _ _ _ _ h | (cases h; rfl) | cases h
theorem zFr_17 {rec : zR} (hr : zKeep rec) {d i n : Nat} {ls : zL} {st : List zV} {σ : zS} {a b c : Nat} {tb : List Nat} {r s} (h : zB_17 rec d i n ls st σ a b c tb = some (r, s)) : s.1 108 = σ.1 108 := by
  unfold zB_17 at h
  (repeat' split at h) <;> first | exact hr _ _ _ _ _ _ _ _ h | (cases h; rfl) | cases h
theorem zFr_18 {rec : zR} (hr : zKeep rec) {d i n : Nat} {ls : zL} {st : List zV} {σ : zS} {a b c : Nat} {tb : List Nat} {r s} (h : zB_18 rec d i n ls st σ a b c tb = some (r, s)) : s.1 108 = σ.1 108 := by
  unfold zB_18 at h
  (repeat' split at h) <;> first | exact hr _ _ _ _ _ _ _ _ h | (cases h; rfl) | cases h
theorem zFr_19 {rec : zR} (hr : zKeep rec) {d i n : Nat} {ls : zL} {st : List zV} {σ : zS} {a b c : Nat} {tb : List Nat} {r s} (h : zB_19 rec d i n ls st σ a b c tb = some (r, s)) : s.1 108 = σ.1 108 := by
  unfold zB_19 at h
  (repeat' split at h) <;> first | exact hr _ _ _ _ _ _ _ _ h | (cases h; rfl) | cases h
theorem zFr_20 {rec : zR} (hr : zKeep rec) {d i n : Nat} {ls : zL} {st : List zV} {σ : zS} {a b c : Nat} {tb : List Nat} {r s} (h : zB_20 rec d i n ls st σ a b c tb = some (r, s)) : s.1 108 = σ.1 108 := by
  unfold zB_20 at h
  (repeat' split at h) <;> first | exact hr _ _ _ _ _ _ _ _ h | (cases h; rfl) | cases h
theorem zFr_21 {rec : zR} (hr : zKeep rec) {d i n : Nat} {ls : zL} {st : List zV} {σ : zS} {a b c : Nat} {tb : List Nat} {r s} (h : zB_21 rec d i n ls st σ a b c tb = some (r, s)) : s.1 108 = σ.1 108 := by
  unfold zB_21 at h
  (repeat' split at h) <;> first | exact hr _ _ _ _ _ _ _ _ h | (cases h; rfl) | cases h
theorem zFr_24 {rec : zR} (hr : zKeep rec) {d i n : Nat} {ls : zL} {st : List zV} {σ : zS} {a b c : Nat} {tb : List Nat} {r s} (h : zB_24 rec d i n ls st σ a b c tb = some (r, s)) : s.1 108 = σ.1 108 := by
  unfold zB_24 at h
  (repeat' split at h) <;> first | exact hr _ _ _ _ _ _ _ _ h | (cases h; rfl) | cases h
theorem zFr_25 {rec : zR} (hr : zKeep rec) {d i n : Nat} {ls : zL} {st : List zV} {σ : zS} {a b c : Nat} {tb : List Nat} {r s} (h : zB_25 rec d i n ls st σ a b c tb = some (r, s)) : s.1 108 = σ.1 108 := by
  unfold zB_25 at h
  (repeat' split at h) <;> first | exact hr _ _ _ _ _ _ _ _ h | (cases h; rfl) | cases h
theorem zFr_26 {rec : zR} (hr : zKeep rec) {d i n : Nat} {ls : zL} {st : List zV} {σ : zS} {a b c : Nat} {tb : List Nat} {r s} (h : zB_26 rec d i n ls st σ a b c tb = some (r, s)) : s.1 108 = σ.1 108 := by
  unfold zB_26 at h
  (repeat' split at h) <;> first | exact hr _ _ _ _ _ _ _ _ h | (cases h; rfl) | cases h
theorem zFr_27 {rec : zR} (hr : zKeep rec) {d i n : Nat} {ls : zL} {st : List zV} {σ : zS} {a b c : Nat} {tb : List Nat} {r s} (h : zB_27 rec d i n ls st σ a b c tb = some (r, s)) : s.1 108 = σ.1 108 := by
  unfold zB_27 at h
  (repeat' split at h) <;> first | exact hr _ _ _ _ _ _ _ _ h | (cases h; rfl) | cases h
theorem zFr_29 {rec : zR} (hr : zKeep rec) {d i n : Nat} {ls : zL} {st : List zV} {σ : zS} {a b c : Nat} {tb : List Nat} {r s} (h : zB_29 rec d i n ls st σ a b c tb = some (r, s)) : s.1 108 = σ.1 108 := by
  unfold zB_29 at h
  (repeat' split at h) <;> first | exact hr _ _ _ _ _ _ _ _ h | (cases h; rfl) | cases h
theorem zFr_30 {rec : zR} (hr : zKeep rec) {d i n : Nat} {ls : zL} {st : List zV} {σ : zS} {a b c : Nat} {tb : List Nat} {r s} (h : zB_30 rec d i n ls st σ a b c tb = some (r, s)) : s.1 108 = σ.1 108 := by
  unfold zB_30 at h
  (repeat' split at h) <;> first | exact hr _ _ _ _ _ _ _ _ h | (cases h; rfl) | cases h
theorem zFr_33 {rec : zR} (hr : zKeep rec) {d i n : Nat} {ls : zL} {st : List zV} {σ : zS} {a b c : Nat} {tb : List Nat} {r s} (h : zB_33 rec d i n ls st σ a b c tb = some (r, s)) : s.1 108 = σ.1 108 := by
  unfold zB_33 at h
  (repeat' split at h) <;> first | exact hr _ _ _ _ _ _ _ _ h | (cases h; rfl) | cases h
theorem zFr_34 {rec : zR} (hr : zKeep rec) {d i n : Nat} {ls : zL} {st : List zV} {σ : zS} {a b c : Nat} {tb : List Nat} {r s} (h : zB_34 rec d i n ls st σ a b c tb = some (r, s)) : s.1 108 = σ.1 108 := by
  unfold zB_34 at h
  (repeat' split at h) <;> first | exact hr _ _ _ _ _ _ _ _ h | (cases h; rfl) | cases h
theorem zFr_11 {rec : zR} (hr : zKeep rec) {d i n : Nat} {ls : zL} {st : List zV} {σ : zS} {a b c : Nat} {tb : List Nat} {r s} (h : zB_11 rec d i n ls st σ a b c tb = some (r, s)) : s.1 108 = σ.1 108 := by
  unfold zB_11 at h
  split at h
  · split at h
    · rename_i q
      exact (hr _ _ _ _ _ _ _ _ h).trans (zFr_U (zFr_F q.2))
    · cases h
  · cases h
theorem zFr_13 {rec : zR} (hr : zKeep rec) {d i n : Nat} {ls : zL} {st : List zV} {σ : zS} {a b c : Nat} {tb : List Nat} {r s} (h : zB_13 rec d i n ls st σ a b c tb = some (r, s)) : s.1 108 = σ.1 108 := by
  unfold zB_13 at h
  split at h
  · split at h
    · rename_i q
      exact (hr _ _ _ _ _ _ _ _ h).trans (zFr_U (zFr_K q.1 (by decide)))
    · cases h
  · split at h
    · exact (hr _ _ _ _ _ _ _ _ h).trans rfl
    · cases h
  · split at h
    · rename_i q
      exact (hr _ _ _ _ _ _ _ _ h).trans (zFr_U (zFr_K q.1 (by decide)))
    · cases h
  · split at h
    · rename_i q
      exact (hr _ _ _ _ _ _ _ _ h).trans (zFr_U (zFr_K q.1 (by decide)))
    · cases h
  · cases h
theorem zFr_22 {rec : zR} (hr : zKeep rec) {d i n : Nat} {ls : zL} {st : List zV} {σ : zS} {a b c : Nat} {tb : List Nat} {r s} (h : zB_22 rec d i n ls st σ a b c tb = some (r, s)) : s.1 108 = σ.1 108 := by
  unfold zB_22 at h
  split at h
  · split at h
    · exact hr _ _ _ _ _ _ _ _ h
    · split at h
      · exact hr _ _ _ _ _ _ _ _ h
      · cases h
  · cases h
theorem zFr_23 {rec : zR} (hr : zKeep rec) {d i n : Nat} {ls : zL} {st : List zV} {σ : zS} {a b c : Nat} {tb : List Nat} {r s} (h : zB_23 rec d i n ls st σ a b c tb = some (r, s)) : s.1 108 = σ.1 108 := by
  unfold zB_23 at h
  split at h
  · cases h
  · split at h
    · split at h
      · rename_i e
        exact (hr _ _ _ _ _ _ _ _ h).trans (hr _ _ _ _ _ _ _ _ e)
      · cases h
    · cases h
theorem zFr_C {σ : zS} {k n i k2 n2 j m : Nat} (h : ¬ k2 = 108) : (zCp σ k n i k2 n2 j m).1 108 = σ.1 108 := by
  refine funext fun x => funext fun y => ?_
  exact if_neg (fun q => h q.1.symm)
theorem zFr_28 {rec : zR} (hr : zKeep rec) {d i n : Nat} {ls : zL} {st : List zV} {σ : zS} {a b c : Nat} {tb : List Nat} {r s} (h : zB_28 rec d i n ls st σ a b c tb = some (r, s)) : s.1 108 = σ.1 108 := by
  unfold zB_28 at h
  split at h
  · cases h
  · split at h
    · split at h
      · exact hr _ _ _ _ _ _ _ _ h
      · cases h
    · split at h
      · exact hr _ _ _ _ _ _ _ _ h
      · cases h
    · split at h
      · exact hr _ _ _ _ _ _ _ _ h
      · cases h
    · split at h
      · exact hr _ _ _ _ _ _ _ _ h
      · cases h
    · split at h
      · rename_i q
        exact (hr _ _ _ _ _ _ _ _ h).trans (zFr_C (zFr_K q.2.1.2 (by decide)))
      · cases h
    · split at h
      · exact hr _ _ _ _ _ _ _ _ h
      · cases h
    · split at h
      · exact hr _ _ _ _ _ _ _ _ h
      · cases h
    · cases h
theorem zFr_B {rec : zR} (hr : zKeep rec) {d i n : Nat} {ls : zL} {st : List zV} {σ : zS} {o : Option rvI} {r s} (h : zBody rec d i n ls st σ o = some (r, s)) : s.1 108 = σ.1 108 := by
  unfold zBody at h
  split at h
  · cases h
  · split at h
    · exact zFr_0 hr h
    · exact zFr_1 hr h
    · exact zFr_2 hr h
    · exact zFr_3 hr h
    · exact zFr_4 hr h
    · exact zFr_5 hr h
    · exact zFr_6 hr h
    · exact zFr_7 hr h
    · exact zFr_8 hr h
    · exact zFr_9 hr h
    · exact zFr_10 hr h
    · exact zFr_11 hr h
    · exact zFr_12 hr h
    · exact zFr_13 hr h
    · exact zFr_14 hr h
    · exact zFr_15 hr h
    · exact zFr_16 hr h
    · exact zFr_17 hr h
    · exact zFr_18 hr h
    · exact zFr_19 hr h
    · exact zFr_20 hr h
    · exact zFr_21 hr h
    · exact zFr_22 hr h
    · exact zFr_23 hr h
    · exact zFr_24 hr h
    · exact zFr_25 hr h
    · exact zFr_26 hr h
    · exact zFr_27 hr h
    · exact zFr_28 hr h
    · exact zFr_29 hr h
    · exact zFr_30 hr h
    · exact zFr_33 hr h
    · exact zFr_34 hr h
    · cases h
theorem zFr_E : ∀ F, zKeep (zEv F)
  | 0 => fun _ _ _ _ _ _ _ _ h => by cases h
  | F + 1 => fun d i n ls st σ r s h => zFr_B (zFr_E F) (show zBody (zEv F) d i n ls st σ ((rvCode i)[n]?) = some (r, s) from h)
/-- a method's call leaves the script -/
theorem zM_fr {d i : Nat} {as : List zV} {σ : zS} {Q : Option zV → zS → Prop} (h : zM d i as σ Q) : zM d i as σ (fun r s => Q r s ∧ s.1 108 = σ.1 108) := by
  obtain ⟨F, r, s, h1, h2⟩ := h
  exact ⟨F, r, s, h1, h2, zFr_E F _ _ _ _ _ _ _ _ h1⟩
