-- rules for one instruction each, as the walker (wip/whole/gen/vc.py) prints them
section ZRule
variable {d i n pc a b c : Nat} {tb : List Nat} {ls : zL} {st : List zV} {σ : zS} {Q : Option zV → zS → Prop}
theorem zX_i0 {v : Int} (hf : (rvCode i)[n]? = some (pc, 19, 0, b, c, tb)) (k1 : v = 0 → zX d i b ls st σ Q) (k2 : ¬ v = 0 → zX d i (n + 1) ls st σ Q) : zX d i n ls (.inl v :: st) σ Q :=
  zX_if (q := zC1 0 v = true) (by rw [hf]; rfl) (fun h => k1 (of_decide_eq_true h)) (fun h => k2 (fun q => h (decide_eq_true q)))
theorem zX_i1 {v : Int} (hf : (rvCode i)[n]? = some (pc, 19, 1, b, c, tb)) (k1 : ¬ v = 0 → zX d i b ls st σ Q) (k2 : v = 0 → zX d i (n + 1) ls st σ Q) : zX d i n ls (.inl v :: st) σ Q :=
  zX_if (q := zC1 1 v = true) (by rw [hf]; rfl) (fun h => k1 (of_decide_eq_true h)) (fun h => k2 (Decidable.byContradiction fun q => h (decide_eq_true q)))
theorem zX_i2 {v : Int} (hf : (rvCode i)[n]? = some (pc, 19, 2, b, c, tb)) (k1 : v < 0 → zX d i b ls st σ Q) (k2 : ¬ v < 0 → zX d i (n + 1) ls st σ Q) : zX d i n ls (.inl v :: st) σ Q :=
  zX_if (q := zC1 2 v = true) (by rw [hf]; rfl) (fun h => k1 (of_decide_eq_true h)) (fun h => k2 (fun q => h (decide_eq_true q)))
theorem zX_i3 {v : Int} (hf : (rvCode i)[n]? = some (pc, 19, 3, b, c, tb)) (k1 : 0 ≤ v → zX d i b ls st σ Q) (k2 : ¬ 0 ≤ v → zX d i (n + 1) ls st σ Q) : zX d i n ls (.inl v :: st) σ Q :=
  zX_if (q := zC1 3 v = true) (by rw [hf]; rfl) (fun h => k1 (of_decide_eq_true h)) (fun h => k2 (fun q => h (decide_eq_true q)))
theorem zX_i4 {v : Int} (hf : (rvCode i)[n]? = some (pc, 19, 4, b, c, tb)) (k1 : 0 < v → zX d i b ls st σ Q) (k2 : ¬ 0 < v → zX d i (n + 1) ls st σ Q) : zX d i n ls (.inl v :: st) σ Q :=
  zX_if (q := zC1 4 v = true) (by rw [hf]; rfl) (fun h => k1 (of_decide_eq_true h)) (fun h => k2 (fun q => h (decide_eq_true q)))
theorem zX_i5 {v : Int} (hf : (rvCode i)[n]? = some (pc, 19, 5, b, c, tb)) (k1 : v ≤ 0 → zX d i b ls st σ Q) (k2 : ¬ v ≤ 0 → zX d i (n + 1) ls st σ Q) : zX d i n ls (.inl v :: st) σ Q :=
  zX_if (q := zC1 5 v = true) (by rw [hf]; rfl) (fun h => k1 (of_decide_eq_true h)) (fun h => k2 (fun q => h (decide_eq_true q)))
theorem zX_c0 {v y : Int} (hf : (rvCode i)[n]? = some (pc, 20, 0, b, c, tb)) (k1 : v = y → zX d i b ls st σ Q) (k2 : ¬ v = y → zX d i (n + 1) ls st σ Q) : zX d i n ls (.inl y :: .inl v :: st) σ Q :=
  zX_if (q := zC2 0 v y = true) (by rw [hf]; rfl) (fun h => k1 (of_decide_eq_true h)) (fun h => k2 (fun q => h (decide_eq_true q)))
theorem zX_c1 {v y : Int} (hf : (rvCode i)[n]? = some (pc, 20, 1, b, c, tb)) (k1 : ¬ v = y → zX d i b ls st σ Q) (k2 : v = y → zX d i (n + 1) ls st σ Q) : zX d i n ls (.inl y :: .inl v :: st) σ Q :=
  zX_if (q := zC2 1 v y = true) (by rw [hf]; rfl) (fun h => k1 (of_decide_eq_true h)) (fun h => k2 (Decidable.byContradiction fun q => h (decide_eq_true q)))
theorem zX_c2 {v y : Int} (hf : (rvCode i)[n]? = some (pc, 20, 2, b, c, tb)) (k1 : v < y → zX d i b ls st σ Q) (k2 : ¬ v < y → zX d i (n + 1) ls st σ Q) : zX d i n ls (.inl y :: .inl v :: st) σ Q :=
  zX_if (q := zC2 2 v y = true) (by rw [hf]; rfl) (fun h => k1 (of_decide_eq_true h)) (fun h => k2 (fun q => h (decide_eq_true q)))
theorem zX_c3 {v y : Int} (hf : (rvCode i)[n]? = some (pc, 20, 3, b, c, tb)) (k1 : y ≤ v → zX d i b ls st σ Q) (k2 : ¬ y ≤ v → zX d i (n + 1) ls st σ Q) : zX d i n ls (.inl y :: .inl v :: st) σ Q :=
  zX_if (q := zC2 3 v y = true) (by rw [hf]; rfl) (fun h => k1 (of_decide_eq_true h)) (fun h => k2 (fun q => h (decide_eq_true q)))
theorem zX_c4 {v y : Int} (hf : (rvCode i)[n]? = some (pc, 20, 4, b, c, tb)) (k1 : y < v → zX d i b ls st σ Q) (k2 : ¬ y < v → zX d i (n + 1) ls st σ Q) : zX d i n ls (.inl y :: .inl v :: st) σ Q :=
  zX_if (q := zC2 4 v y = true) (by rw [hf]; rfl) (fun h => k1 (of_decide_eq_true h)) (fun h => k2 (fun q => h (decide_eq_true q)))
theorem zX_c5 {v y : Int} (hf : (rvCode i)[n]? = some (pc, 20, 5, b, c, tb)) (k1 : v ≤ y → zX d i b ls st σ Q) (k2 : ¬ v ≤ y → zX d i (n + 1) ls st σ Q) : zX d i n ls (.inl y :: .inl v :: st) σ Q :=
  zX_if (q := zC2 5 v y = true) (by rw [hf]; rfl) (fun h => k1 (of_decide_eq_true h)) (fun h => k2 (fun q => h (decide_eq_true q)))
theorem zX_div {v y : Int} (hf : (rvCode i)[n]? = some (pc, 5, a, b, c, tb)) (hy : y ≠ 0) (k : zX d i (n + 1) ls (.inl (zBin a v y) :: st) σ Q) : zX d i n ls (.inl y :: .inl v :: st) σ Q :=
  zX_ask (q := zBinOk a y = true) (by rw [hf]; rfl) (by unfold zBinOk; split <;> first | exact decide_eq_true hy | rfl) k
theorem zX_ldiv {v y : Int} (hf : (rvCode i)[n]? = some (pc, 6, a, b, c, tb)) (hy : y ≠ 0) (k : zX d i (n + 1) ls (.inr (.inl (zLBin a v y)) :: st) σ Q) : zX d i n ls (.inr (.inl y) :: .inr (.inl v) :: st) σ Q :=
  zX_ask (q := zLBinOk a y = true) (by rw [hf]; rfl) (by unfold zLBinOk; split <;> first | exact decide_eq_true hy | rfl) k
theorem zX_putb {v : Int} {h : Nat} (hf : (rvCode i)[n]? = some (pc, 11, a, b, c, tb)) (ht : rvFt a b = 1) (hv : v = 0 ∨ v = 1) (k : zX d i (n + 1) ls st (zU σ a h b v) Q) : zX d i n ls (.inl v :: .inr (.inr (a, h)) :: st) σ Q :=
  zX_ask (q := a = a ∧ zFld (rvFt a b) v = true) (by rw [hf]; rfl) ⟨rfl, by rw [ht]; exact decide_eq_true hv⟩ k
theorem zX_ald1 {v : Int} {k h L : Nat} (hf : (rvCode i)[n]? = some (pc, 12, 1, b, c, tb)) (ht : (rvK k).1 = 1 ∨ (rvK k).1 = 11) (hl : zLen σ k h = L) (hv : 0 ≤ v ∧ v < (L : Int)) (kk : zX d i (n + 1) ls (.inl (σ.1 k h v.toNat) :: st) σ Q) : zX d i n ls (.inl v :: .inr (.inr (k, h)) :: st) σ Q :=
  zX_ask (q := ((rvK k).1 = 1 ∨ (rvK k).1 = 11) ∧ zIn v (zLen σ k h) = true) (by rw [hf]; rfl) ⟨ht, by rw [hl]; exact decide_eq_true hv⟩ kk
theorem zX_ald2 {v : Int} {k h L : Nat} (hf : (rvCode i)[n]? = some (pc, 12, 2, b, c, tb)) (ht : (rvK k).1 = 2) (hl : zLen σ k h = L) (hv : 0 ≤ v ∧ v < (L : Int)) (kk : zX d i (n + 1) ls (.inr (.inl (σ.2 k h v.toNat)) :: st) σ Q) : zX d i n ls (.inl v :: .inr (.inr (k, h)) :: st) σ Q :=
  zX_ask (q := (rvK k).1 = 2 ∧ zIn v (zLen σ k h) = true) (by rw [hf]; rfl) ⟨ht, by rw [hl]; exact decide_eq_true hv⟩ kk
theorem zX_ald3 {v : Int} {k h L : Nat} (hf : (rvCode i)[n]? = some (pc, 12, 3, b, c, tb)) (ht : (rvK k).1 = 3) (hl : zLen σ k h = L) (hv : 0 ≤ v ∧ v < (L : Int)) (kk : zX d i (n + 1) ls (.inl (σ.1 k h v.toNat) :: st) σ Q) : zX d i n ls (.inl v :: .inr (.inr (k, h)) :: st) σ Q :=
  zX_ask (q := (rvK k).1 = 3 ∧ zIn v (zLen σ k h) = true) (by rw [hf]; rfl) ⟨ht, by rw [hl]; exact decide_eq_true hv⟩ kk
theorem zX_ald4 {v : Int} {k h L : Nat} (hf : (rvCode i)[n]? = some (pc, 12, 4, b, c, tb)) (ht : (rvK k).1 = 4) (hl : zLen σ k h = L) (hv : 0 ≤ v ∧ v < (L : Int)) (kk : zX d i (n + 1) ls (.inl (σ.1 k h v.toNat) :: st) σ Q) : zX d i n ls (.inl v :: .inr (.inr (k, h)) :: st) σ Q :=
  zX_ask (q := (rvK k).1 = 4 ∧ zIn v (zLen σ k h) = true) (by rw [hf]; rfl) ⟨ht, by rw [hl]; exact decide_eq_true hv⟩ kk
theorem zX_ald5 {v : Int} {k h L : Nat} (hf : (rvCode i)[n]? = some (pc, 12, 5, b, c, tb)) (ht : 5 ≤ (rvK k).1 ∧ (rvK k).1 ≤ 10) (hl : zLen σ k h = L) (hv : 0 ≤ v ∧ v < (L : Int)) (kk : zX d i (n + 1) ls (.inr (.inr (rvTg k h v.toNat)) :: st) σ Q) : zX d i n ls (.inl v :: .inr (.inr (k, h)) :: st) σ Q :=
  zX_ask (q := (5 ≤ (rvK k).1 ∧ (rvK k).1 ≤ 10) ∧ zIn v (zLen σ k h) = true) (by rw [hf]; rfl) ⟨ht, by rw [hl]; exact decide_eq_true hv⟩ kk
theorem zX_ast1 {y v : Int} {k h L : Nat} (hf : (rvCode i)[n]? = some (pc, 13, 1, b, c, tb)) (ht : (rvK k).1 = 1) (hl : zLen σ k h = L) (hv : 0 ≤ v ∧ v < (L : Int)) (kk : zX d i (n + 1) ls st (zU σ k h v.toNat y) Q) : zX d i n ls (.inl y :: .inl v :: .inr (.inr (k, h)) :: st) σ Q :=
  zX_ask (q := (rvK k).1 = 1 ∧ zIn v (zLen σ k h) = true) (by rw [hf]; rfl) ⟨ht, by rw [hl]; exact decide_eq_true hv⟩ kk
theorem zX_ast2 {y v : Int} {k h L : Nat} (hf : (rvCode i)[n]? = some (pc, 13, 2, b, c, tb)) (ht : (rvK k).1 = 2) (hl : zLen σ k h = L) (hv : 0 ≤ v ∧ v < (L : Int)) (kk : zX d i (n + 1) ls st (zUL σ k h v.toNat y) Q) : zX d i n ls (.inr (.inl y) :: .inl v :: .inr (.inr (k, h)) :: st) σ Q :=
  zX_ask (q := (rvK k).1 = 2 ∧ zIn v (zLen σ k h) = true) (by rw [hf]; rfl) ⟨ht, by rw [hl]; exact decide_eq_true hv⟩ kk
theorem zX_ast3 {y v : Int} {k h L : Nat} (hf : (rvCode i)[n]? = some (pc, 13, 3, b, c, tb)) (ht : (rvK k).1 = 3) (hl : zLen σ k h = L) (hv : 0 ≤ v ∧ v < (L : Int)) (kk : zX d i (n + 1) ls st (zU σ k h v.toNat ((y + 128) % 256 - 128)) Q) : zX d i n ls (.inl y :: .inl v :: .inr (.inr (k, h)) :: st) σ Q :=
  zX_ask (q := (rvK k).1 = 3 ∧ zIn v (zLen σ k h) = true) (by rw [hf]; rfl) ⟨ht, by rw [hl]; exact decide_eq_true hv⟩ kk
theorem zX_ast4 {y v : Int} {k h L : Nat} (hf : (rvCode i)[n]? = some (pc, 13, 4, b, c, tb)) (ht : (rvK k).1 = 4) (hl : zLen σ k h = L) (hv : 0 ≤ v ∧ v < (L : Int)) (hy : y = 0 ∨ y = 1) (kk : zX d i (n + 1) ls st (zU σ k h v.toNat y) Q) : zX d i n ls (.inl y :: .inl v :: .inr (.inr (k, h)) :: st) σ Q :=
  zX_ask (q := (rvK k).1 = 4 ∧ zIn v (zLen σ k h) = true ∧ (y = 0 ∨ y = 1)) (by rw [hf]; rfl) ⟨ht, by rw [hl]; exact decide_eq_true hv, hy⟩ kk
theorem zX_b0 {v y : Int} (hf : (rvCode i)[n]? = some (pc, 28, 0, b, c, tb)) (hd : 10 ≤ d) (hc : Nat.ble (zCat st) 8 = true) (k : zX d i (n + 1) ls (.inl (if v < y then v else y) :: st) σ Q) : zX d i n ls (.inl y :: .inl v :: st) σ Q := by
  obtain ⟨F, r, s, h1, h2⟩ := k
  refine ⟨F + 1, r, s, ?_, h2⟩
  show zBody (zEv F) d i n ls (.inl y :: .inl v :: st) σ ((rvCode i)[n]?) = _
  rw [hf]
  show (if d < 10 then none else (if zCat st ≤ 8 then zEv F d i (n + 1) ls (.inl (if v < y then v else y) :: st) σ else none)) = _
  rw [if_neg (by omega), if_pos (Nat.le_of_ble_eq_true hc)]
  exact h1
theorem zX_b1 {v y : Int} (hf : (rvCode i)[n]? = some (pc, 28, 1, b, c, tb)) (hd : 10 ≤ d) (hc : Nat.ble (zCat st) 8 = true) (k : zX d i (n + 1) ls (.inl (if v < y then y else v) :: st) σ Q) : zX d i n ls (.inl y :: .inl v :: st) σ Q := by
  obtain ⟨F, r, s, h1, h2⟩ := k
  refine ⟨F + 1, r, s, ?_, h2⟩
  show zBody (zEv F) d i n ls (.inl y :: .inl v :: st) σ ((rvCode i)[n]?) = _
  rw [hf]
  show (if d < 10 then none else (if zCat st ≤ 8 then zEv F d i (n + 1) ls (.inl (if v < y then y else v) :: st) σ else none)) = _
  rw [if_neg (by omega), if_pos (Nat.le_of_ble_eq_true hc)]
  exact h1
theorem zX_b2 {v y : Int} (hf : (rvCode i)[n]? = some (pc, 28, 2, b, c, tb)) (hd : 10 ≤ d) (hc : Nat.ble (zCat st) 8 = true) (k : zX d i (n + 1) ls (.inr (.inl (if y < v then v else y)) :: st) σ Q) : zX d i n ls (.inr (.inl y) :: .inr (.inl v) :: st) σ Q := by
  obtain ⟨F, r, s, h1, h2⟩ := k
  refine ⟨F + 1, r, s, ?_, h2⟩
  show zBody (zEv F) d i n ls (.inr (.inl y) :: .inr (.inl v) :: st) σ ((rvCode i)[n]?) = _
  rw [hf]
  show (if d < 10 then none else (if zCat st ≤ 8 then zEv F d i (n + 1) ls (.inr (.inl (if y < v then v else y)) :: st) σ else none)) = _
  rw [if_neg (by omega), if_pos (Nat.le_of_ble_eq_true hc)]
  exact h1
theorem zX_b3 {v y : Int} (hf : (rvCode i)[n]? = some (pc, 28, 3, b, c, tb)) (hd : 10 ≤ d) (hc : Nat.ble (zCat st) 8 = true) (k : zX d i (n + 1) ls (.inr (.inl (if y < v then y else v)) :: st) σ Q) : zX d i n ls (.inr (.inl y) :: .inr (.inl v) :: st) σ Q := by
  obtain ⟨F, r, s, h1, h2⟩ := k
  refine ⟨F + 1, r, s, ?_, h2⟩
  show zBody (zEv F) d i n ls (.inr (.inl y) :: .inr (.inl v) :: st) σ ((rvCode i)[n]?) = _
  rw [hf]
  show (if d < 10 then none else (if zCat st ≤ 8 then zEv F d i (n + 1) ls (.inr (.inl (if y < v then y else v)) :: st) σ else none)) = _
  rw [if_neg (by omega), if_pos (Nat.le_of_ble_eq_true hc)]
  exact h1
theorem zX_s0 {v y : Int} (hf : (rvCode i)[n]? = some (pc, 28, 0, b, c, tb)) (hd : 10 ≤ d) (hc : Nat.ble (zCat st) 8 = true) (k1 : v < y → zX d i (n + 1) ls (.inl v :: st) σ Q) (k2 : ¬ v < y → zX d i (n + 1) ls (.inl y :: st) σ Q) : zX d i n ls (.inl y :: .inl v :: st) σ Q := by
  refine zX_b0 hf hd hc ?_
  by_cases h : v < y
  · rw [if_pos h]; exact k1 h
  · rw [if_neg h]; exact k2 h
theorem zX_s1 {v y : Int} (hf : (rvCode i)[n]? = some (pc, 28, 1, b, c, tb)) (hd : 10 ≤ d) (hc : Nat.ble (zCat st) 8 = true) (k1 : v < y → zX d i (n + 1) ls (.inl y :: st) σ Q) (k2 : ¬ v < y → zX d i (n + 1) ls (.inl v :: st) σ Q) : zX d i n ls (.inl y :: .inl v :: st) σ Q := by
  refine zX_b1 hf hd hc ?_
  by_cases h : v < y
  · rw [if_pos h]; exact k1 h
  · rw [if_neg h]; exact k2 h
theorem zX_s2 {v y : Int} (hf : (rvCode i)[n]? = some (pc, 28, 2, b, c, tb)) (hd : 10 ≤ d) (hc : Nat.ble (zCat st) 8 = true) (k1 : y < v → zX d i (n + 1) ls (.inr (.inl v) :: st) σ Q) (k2 : ¬ y < v → zX d i (n + 1) ls (.inr (.inl y) :: st) σ Q) : zX d i n ls (.inr (.inl y) :: .inr (.inl v) :: st) σ Q := by
  refine zX_b2 hf hd hc ?_
  by_cases h : y < v
  · rw [if_pos h]; exact k1 h
  · rw [if_neg h]; exact k2 h
theorem zX_s3 {v y : Int} (hf : (rvCode i)[n]? = some (pc, 28, 3, b, c, tb)) (hd : 10 ≤ d) (hc : Nat.ble (zCat st) 8 = true) (k1 : y < v → zX d i (n + 1) ls (.inr (.inl y) :: st) σ Q) (k2 : ¬ y < v → zX d i (n + 1) ls (.inr (.inl v) :: st) σ Q) : zX d i n ls (.inr (.inl y) :: .inr (.inl v) :: st) σ Q := by
  refine zX_b3 hf hd hc ?_
  by_cases h : y < v
  · rw [if_pos h]; exact k1 h
  · rw [if_neg h]; exact k2 h
theorem zX_lc {v y : Int} (hf : (rvCode i)[n]? = some (pc, 9, a, b, c, tb)) (k1 : y < v → zX d i (n + 1) ls (.inl 1 :: st) σ Q) (k2 : v = y → zX d i (n + 1) ls (.inl 0 :: st) σ Q) (k3 : v < y → zX d i (n + 1) ls (.inl (-1) :: st) σ Q) : zX d i n ls (.inr (.inl y) :: .inr (.inl v) :: st) σ Q := by
  refine zX_one (n' := n + 1) (ls' := ls) (st' := .inl (if y < v then 1 else if v = y then 0 else -1) :: st) (σ' := σ) (by rw [hf]; rfl) ?_
  by_cases h : y < v
  · rw [if_pos h]; exact k1 h
  · rw [if_neg h]
    by_cases h2 : v = y
    · rw [if_pos h2]; exact k2 h2
    · rw [if_neg h2]; exact k3 (by omega)
def zSwP (v : Int) (P : Nat → Prop) : List Nat → Int → Prop
  | [], _ => True
  | t :: r, lo => (v = lo → P t) ∧ zSwP v P r (lo + 1)
theorem zSwP_get {v : Int} {P : Nat → Prop} : ∀ {tb : List Nat} {lo : Int} (j : Nat) {t : Nat}, zSwP v P tb lo → tb[j]? = some t → v = lo + j → P t
  | [], lo, j, t, h, ht, e => by simp at ht
  | u :: r, lo, 0, t, h, ht, e => by
    simp only [List.getElem?_cons_zero, Option.some.injEq] at ht
    subst ht
    exact h.1 (by omega)
  | u :: r, lo, j + 1, t, h, ht, e => by
    simp only [List.getElem?_cons_succ] at ht
    exact zSwP_get j h.2 ht (by omega)
theorem zX_sw {v : Int} (hf : (rvCode i)[n]? = some (pc, 22, a, b, c, tb)) (k0 : v < (a : Int) - 1000 ∨ (c : Int) - 1000 < v → zX d i b ls st σ Q) (k1 : zSwP v (fun t => zX d i t ls st σ Q) tb ((a : Int) - 1000)) (hl : (c : Int) - a + 1 = (tb.length : Int) := by decide) : zX d i n ls (.inl v :: st) σ Q := by
  by_cases h : v < (a : Int) - 1000 ∨ (c : Int) - 1000 < v
  · refine zX_one (n' := b) (ls' := ls) (st' := st) (σ' := σ) ?_ (k0 h)
    rw [hf]
    exact if_pos h
  · have hj : (v - ((a : Int) - 1000)).toNat < tb.length := by omega
    obtain ⟨t, ht⟩ : ∃ t, tb[(v - ((a : Int) - 1000)).toNat]? = some t := ⟨_, List.getElem?_eq_getElem hj⟩
    refine zX_one (n' := t) (ls' := ls) (st' := st) (σ' := σ) ?_ (zSwP_get _ k1 ht (by omega))
    rw [hf]
    show (if v < (a : Int) - 1000 ∨ (c : Int) - 1000 < v then some (b, ls, st, σ) else (match tb[(v - ((a : Int) - 1000)).toNat]? with
      | some t => some (t, ls, st, σ)
      | none => none)) = _
    rw [if_neg h, ht]
end ZRule
