-- further rules for the walker's second form (wip/whole/gen/vc2.py)
def uMaxL (x y : Int) : Int := if y < x then x else y
def uMinL (x y : Int) : Int := if y < x then y else x
theorem zU_same {σ : zS} {k n j : Nat} {v : Int} : (zU σ k n j v).1 k n j = v := if_pos ⟨rfl, rfl, rfl⟩
theorem zUL_same {σ : zS} {k n j : Nat} {v : Int} : (zUL σ k n j v).2 k n j = v := if_pos ⟨rfl, rfl, rfl⟩
theorem zU_ne {σ : zS} {k n j k' n' j' : Nat} {v : Int} (h : ¬ (k' = k ∧ j' = j ∧ n' = n)) : (zU σ k n j v).1 k' n' j' = σ.1 k' n' j' := if_neg h
theorem zUL_ne {σ : zS} {k n j k' n' j' : Nat} {v : Int} (h : ¬ (k' = k ∧ j' = j ∧ n' = n)) : (zUL σ k n j v).2 k' n' j' = σ.2 k' n' j' := if_neg h
theorem zLoop {P : Nat → Prop} {k N : Nat} (hk : k ≤ N) (h0 : P N) (hs : ∀ j, k ≤ j → j < N → P (j + 1) → P j) : P k := by
  obtain ⟨x, hx⟩ := Nat.exists_eq_add_of_le hk
  induction x generalizing k with
  | zero => rw [Nat.add_zero] at hx; exact hx ▸ h0
  | succ x ih => exact hs k (Nat.le_refl _) (by omega) (ih (by omega) (fun j h1 h2 h3 => hs j (by omega) h2 h3) (by omega))
section ZRule2
variable {d i n pc a b c : Nat} {tb : List Nat} {ls : zL} {st : List zV} {σ : zS} {Q : Option zV → zS → Prop}
theorem zX_gfv {h : Nat} {val : Int} (hf : (rvCode i)[n]? = some (pc, 10, a, b, c, tb)) (ht : Nat.ble (rvFt a b) 1 = true) (hv : σ.1 a h b = val) (k : zX d i (n + 1) ls (.inl val :: st) σ Q) : zX d i n ls (.inr (.inr (a, h)) :: st) σ Q := by
  subst hv
  refine zX_one (n' := n + 1) (ls' := ls) (st' := .inl (σ.1 a h b) :: st) (σ' := σ) ?_ k
  rw [hf]
  show (if a = a then (match rvFt a b with
    | 0 => some (n + 1, ls, Sum.inl (σ.1 a h b) :: st, σ)
    | 1 => some (n + 1, ls, Sum.inl (σ.1 a h b) :: st, σ)
    | 2 => some (n + 1, ls, .inr (.inr (rvTg a h b)) :: st, σ)
    | _ => none) else none) = _
  rw [if_pos rfl]
  revert ht
  generalize rvFt a b = t
  intro ht
  match t, ht with
  | 0, _ => rfl
  | 1, _ => rfl
theorem zX_ald1v {v val : Int} {k h L : Nat} (hf : (rvCode i)[n]? = some (pc, 12, 1, b, c, tb)) (ht : (rvK k).1 = 1 ∨ (rvK k).1 = 11) (hl : zLen σ k h = L) (hv : 0 ≤ v ∧ v < (L : Int)) (e : σ.1 k h v.toNat = val) (kk : zX d i (n + 1) ls (.inl val :: st) σ Q) : zX d i n ls (.inl v :: .inr (.inr (k, h)) :: st) σ Q := by
  subst e; exact zX_ald1 hf ht hl hv kk
theorem zX_ald2v {v val : Int} {k h L : Nat} (hf : (rvCode i)[n]? = some (pc, 12, 2, b, c, tb)) (ht : (rvK k).1 = 2) (hl : zLen σ k h = L) (hv : 0 ≤ v ∧ v < (L : Int)) (e : σ.2 k h v.toNat = val) (kk : zX d i (n + 1) ls (.inr (.inl val) :: st) σ Q) : zX d i n ls (.inl v :: .inr (.inr (k, h)) :: st) σ Q := by
  subst e; exact zX_ald2 hf ht hl hv kk
theorem zX_ald3v {v val : Int} {k h L : Nat} (hf : (rvCode i)[n]? = some (pc, 12, 3, b, c, tb)) (ht : (rvK k).1 = 3) (hl : zLen σ k h = L) (hv : 0 ≤ v ∧ v < (L : Int)) (e : σ.1 k h v.toNat = val) (kk : zX d i (n + 1) ls (.inl val :: st) σ Q) : zX d i n ls (.inl v :: .inr (.inr (k, h)) :: st) σ Q := by
  subst e; exact zX_ald3 hf ht hl hv kk
theorem zX_ald4v {v val : Int} {k h L : Nat} (hf : (rvCode i)[n]? = some (pc, 12, 4, b, c, tb)) (ht : (rvK k).1 = 4) (hl : zLen σ k h = L) (hv : 0 ≤ v ∧ v < (L : Int)) (e : σ.1 k h v.toNat = val) (kk : zX d i (n + 1) ls (.inl val :: st) σ Q) : zX d i n ls (.inl v :: .inr (.inr (k, h)) :: st) σ Q := by
  subst e; exact zX_ald4 hf ht hl hv kk
theorem zX_cpy {m j v : Int} {k h k2 h2 L L2 : Nat} (hf : (rvCode i)[n]? = some (pc, 28, 4, b, c, tb)) (hd : 10 ≤ d) (hc : Nat.ble (zCat st) 8 = true) (ht : (rvK k).1 = 1 ∧ (rvK k2).1 = 1) (hl : zLen σ k h = L) (hl2 : zLen σ k2 h2 = L2) (hv : 0 ≤ v ∧ 0 ≤ j ∧ 0 ≤ m ∧ v + m ≤ (L : Int) ∧ j + m ≤ (L2 : Int)) (kk : zX d i (n + 1) ls st (zCp σ k h v.toNat k2 h2 j.toNat m.toNat) Q) : zX d i n ls (.inl m :: .inl j :: .inr (.inr (k2, h2)) :: .inl v :: .inr (.inr (k, h)) :: st) σ Q := by
  obtain ⟨F, r, s, h1, h3⟩ := kk
  refine ⟨F + 1, r, s, ?_, h3⟩
  show zBody (zEv F) d i n ls (.inl m :: .inl j :: .inr (.inr (k2, h2)) :: .inl v :: .inr (.inr (k, h)) :: st) σ ((rvCode i)[n]?) = _
  rw [hf]
  show (if d < 10 then none else (if zCat st ≤ 8 ∧ ((rvK k).1 = 1 ∧ (rvK k2).1 = 1) ∧ (0 ≤ v ∧ 0 ≤ j ∧ 0 ≤ m ∧ v + m ≤ (zLen σ k h : Int) ∧ j + m ≤ (zLen σ k2 h2 : Int)) then zEv F d i (n + 1) ls st (zCp σ k h v.toNat k2 h2 j.toNat m.toNat) else none)) = _
  rw [if_neg (by omega), if_pos ⟨Nat.le_of_ble_eq_true hc, ht, by rw [hl, hl2]; exact hv⟩]
  exact h1
theorem zX_sln {h : Nat} (hf : (rvCode i)[n]? = some (pc, 28, 5, b, c, tb)) (hd : 10 ≤ d) (hc : Nat.ble (zCat st) 6 = true) (kk : zX d i (n + 1) ls (.inl (zW (rvSn.getD h 0 : Int)) :: st) σ Q) : zX d i n ls (.inr (.inr (106, h)) :: st) σ Q := by
  obtain ⟨F, r, s, h1, h3⟩ := kk
  refine ⟨F + 1, r, s, ?_, h3⟩
  show zBody (zEv F) d i n ls (.inr (.inr (106, h)) :: st) σ ((rvCode i)[n]?) = _
  rw [hf]
  show (if d < 10 then none else (if 106 = 106 ∧ zCat st ≤ 6 then zEv F d i (n + 1) ls (.inl (zW (rvSn.getD h 0 : Int)) :: st) σ else none)) = _
  rw [if_neg (by omega), if_pos ⟨rfl, Nat.le_of_ble_eq_true hc⟩]
  exact h1
theorem zX_sch {h : Nat} {v : Int} (hf : (rvCode i)[n]? = some (pc, 28, 6, b, c, tb)) (hd : 10 ≤ d) (hc : Nat.ble (zCat st) 6 = true) (hv : zIn v (rvSn.getD h 0) = true) (kk : zX d i (n + 1) ls (.inl ((rvSb.getD h []).getD v.toNat 0).toInt :: st) σ Q) : zX d i n ls (.inl v :: .inr (.inr (106, h)) :: st) σ Q := by
  obtain ⟨F, r, s, h1, h3⟩ := kk
  refine ⟨F + 1, r, s, ?_, h3⟩
  show zBody (zEv F) d i n ls (.inl v :: .inr (.inr (106, h)) :: st) σ ((rvCode i)[n]?) = _
  rw [hf]
  show (if d < 10 then none else (if 106 = 106 ∧ zCat st ≤ 6 ∧ zIn v (rvSn.getD h 0) = true then zEv F d i (n + 1) ls (.inl ((rvSb.getD h []).getD v.toNat 0).toInt :: st) σ else none)) = _
  rw [if_neg (by omega), if_pos ⟨rfl, Nat.le_of_ble_eq_true hc, hv⟩]
  exact h1
theorem zX_und {h : Nat} {v : Int} (hf : (rvCode i)[n]? = some (pc, 33, a, b, c, tb)) (hv : zIn v 6 = true) (kk : zX d i (n + 1) ls (.inl (rvUn.getD v.toNat 0).toInt :: st) σ Q) : zX d i n ls (.inl v :: .inr (.inr (105, h)) :: st) σ Q :=
  zX_ask (q := 105 = 105 ∧ zIn v 6 = true) (by rw [hf]; rfl) ⟨rfl, hv⟩ kk
theorem zX_len {k h L : Nat} {v : Int} (hf : (rvCode i)[n]? = some (pc, 14, a, b, c, tb)) (hk : 1 ≤ (rvK k).1 ∧ (rvK k).1 ≤ 11) (hl : zLen σ k h = L) (hw : zW (L : Int) = v) (kk : zX d i (n + 1) ls (.inl v :: st) σ Q) : zX d i n ls (.inr (.inr (k, h)) :: st) σ Q := by
  subst hw; subst hl
  exact zX_ask (q := 1 ≤ (rvK k).1 ∧ (rvK k).1 ≤ 11) (by rw [hf]; rfl) hk kk
end ZRule2
theorem zX_cl {d i n : Nat} {ls ls' : zL} {st : List zV} {σ : zS} {Q : Option zV → zS → Prop} (h : zX d i n ls st σ Q) (e : ls' = ls) : zX d i n ls' st σ Q := e ▸ h
theorem zX_cs {d i n : Nat} {ls : zL} {st : List zV} {σ σ' : zS} {Q : Option zV → zS → Prop} (h : zX d i n ls st σ Q) (e : σ' = σ) : zX d i n ls st σ' Q := e ▸ h
theorem zWs {m : Nat} (h : m < 2147483647) : zW ((m : Int) + 1) = ((m + 1 : Nat) : Int) := by unfold zW; omega
theorem zWn {m : Nat} (h : m < 2147483648) : zW (m : Int) = (m : Int) := by unfold zW; omega
theorem zTd {x : Int} (h : 0 ≤ x) (y : Int) : x.tdiv y = x / y := Int.tdiv_eq_ediv_of_nonneg h
theorem zMod12 {m : Nat} (h : m < 2147483648) : zW ((m : Int) - zW (zW ((m : Int).tdiv 12) * 12)) = ((m % 12 : Nat) : Int) := by
  rw [zTd (by omega)]; unfold zW; omega
theorem zDiv12 {m : Nat} (h : m < 2147483648) : zW ((m : Int).tdiv 12) = ((m / 12 : Nat) : Int) := by
  rw [zTd (by omega)]; unfold zW; omega
