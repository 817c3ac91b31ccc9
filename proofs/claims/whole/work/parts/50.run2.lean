-- the reference: a run, order and months (wip/whole/gen/laws30.py)
theorem mLt_eq {σ : zS} {x y : Nat} : uLt (mD σ) x y = true ↔ mRk σ x < mRk σ y := by
  unfold uLt; rw [decide_eq_true_eq]; exact Iff.rfl
theorem zs_158i {d : Nat} {σ : zS} {Q : Option zV → zS → Prop} {k : Nat} (hk : k < uN (mD σ)) (hN : uN (mD σ) ≤ 16) : ∀ (R : List Nat) {B : List Nat} {τ : zS}, R.length + B.length = k → (∀ x, x ∈ R → x < uN (mD σ)) → (∀ x, x ∈ B → uLt (mD σ) k x = true) →
    (∀ i x : Nat, R.reverse[i]? = some x → τ.1 99 0 i = (x : Int)) → (∀ i x : Nat, B[i]? = some x → τ.1 99 0 (R.length + 1 + i) = (x : Int)) → mRds σ τ →
    (∀ (τ' : zS) (y : Option zV), (∀ i x : Nat, ((uIns (uLt (mD σ)) k (B.reverse ++ R)).reverse)[i]? = some x → τ'.1 99 0 i = (x : Int)) → mRds σ τ' → zX (d + 6) 158 69 [some (.inr (.inr (10, 0))), some (.inl ((k + 1 : Nat) : Int)), y] [] (yR σ τ') Q) →
    zX (d + 6) 158 75 [some (.inr (.inr (10, 0))), some (.inl (k : Int)), some (.inl (R.length : Int))] [] (yR σ τ) Q := by
  intro R
  have up : ∀ (τ : zS) (j : Nat) (v : Int), mRds σ τ → mRds σ (zU τ 99 0 j v) := fun τ j v h => h
  induction R with
  | nil =>
    intro B τ hl hR hB aR aB F h
    refine zb_158e (fun _ => by simp) (fun q => absurd (by simp) q) (fun q => absurd (by simp) q) (fun q => absurd (by simp) q) (fun q => absurd (by simp) q) (fun q => absurd (by simp) q) (fun _ => ?_) (fun q => absurd (by simp) q) (fun q => absurd (by simp) q)
    rw [yR_U rfl, zWs (by omega)]
    refine h _ _ (fun i x hx => ?_) (up _ _ _ F)
    rw [uIns_cut (fun x t e => by cases e) (fun x hx => hB x (by simpa using hx))] at hx
    simp only [List.reverse_append, List.reverse_cons, List.reverse_nil, List.nil_append, List.reverse_reverse, List.cons_append] at hx
    show (if 99 = 99 ∧ i = 0 ∧ 0 = 0 then (k : Int) else τ.1 99 0 i) = _
    cases i with
    | zero => rw [if_pos ⟨rfl, rfl, rfl⟩]; simp at hx; rw [hx]
    | succ i =>
      rw [if_neg (by omega)]
      simp at hx
      have := aB i x hx
      rw [show ([] : List Nat).length + 1 + i = i + 1 by simp; omega] at this
      exact this
  | cons x R ih =>
    intro B τ hl hR hB aR aB F h
    have hx := hR x List.mem_cons_self
    have ln : (x :: R).length = R.length + 1 := rfl
    rw [ln] at hl aB ⊢
    have e1 : zW (((R.length + 1 : Nat) : Int) - 1) = (R.length : Int) := by rw [zW_id (by omega)]; omega
    have e2 : zW (((R.length + 1 : Nat) : Int) + (-1)) = (R.length : Int) := by rw [zW_id (by omega)]; omega
    have ax : τ.1 99 0 R.length = (x : Int) := aR R.length x (by rw [List.reverse_cons, List.getElem?_append_right (by simp)]; simp)
    have ax2 : (yR σ τ).1 99 0 ((R.length : Int)).toNat = (x : Int) := ax
    have rk : ∀ y : Nat, uRank ((yR σ τ).1 60 0 (y : Int).toNat) ((yR σ τ).1 64 0 (y : Int).toNat) = mRk σ y := fun _ => rfl
    have ex : ¬ uLt (mD σ) k x = true → zX (d + 6) 158 69 [some (.inr (.inr (10, 0))), some (.inl (zW ((k : Int) + 1))), some (.inl ((R.length + 1 : Nat) : Int))] [] (zU (yR σ τ) 99 0 (R.length + 1) (k : Int)) Q := by
      intro l
      rw [yR_U rfl, zWs (by omega)]
      refine h _ _ (fun i y hy => ?_) (up _ _ _ F)
      rw [uIns_cut (suf := x :: R) (fun z t e => by cases e; exact l) (fun z hz => hB z (by simpa using hz))] at hy
      rw [List.reverse_append, List.reverse_cons, List.reverse_reverse, List.append_assoc] at hy
      show (if 99 = 99 ∧ i = R.length + 1 ∧ 0 = 0 then (k : Int) else τ.1 99 0 i) = _
      by_cases i1 : i < R.length + 1
      · rw [if_neg (by omega)]
        rw [List.getElem?_append_left (by simpa using i1)] at hy
        exact aR i y hy
      · rw [List.getElem?_append_right (by simpa using Nat.le_of_not_lt i1)] at hy
        by_cases i2 : i = R.length + 1
        · rw [if_pos ⟨rfl, i2, rfl⟩]
          subst i2
          simp at hy
          rw [hy]
        · rw [if_neg (by omega)]
          have : i - (x :: R).reverse.length = (i - (R.length + 2)) + 1 := by simp; omega
          rw [this] at hy
          have := aB (i - (R.length + 2)) y (by simpa using hy)
          rw [show R.length + 1 + 1 + (i - (R.length + 2)) = i by omega] at this
          exact this
    refine zb_158e (fun q => absurd q (by omega)) (fun _ => by rw [e1]; omega) (fun _ => by rw [e1, ax2]; omega) (fun _ => by omega) (fun _ _ => by omega) (fun _ _ => by omega) (fun q => absurd q (by omega)) (fun _ => ?_) (fun _ => ?_)
    · rw [e1, ax2, rk, rk]; intro l
      exact ex (fun q => absurd (mLt_eq.mp q) (by omega))
    · rw [e1, ax2, rk, rk]; intro l
      have l := mLt_eq.mpr (Int.not_le.mp l)
      rw [e2, yR_U rfl]
      refine ih (B := x :: B) (by simp; omega) (fun y hy => hR y (List.mem_cons_of_mem _ hy)) (fun y hy => ?_) (fun i y hy => ?_) (fun i y hy => ?_) (up _ _ _ F) (fun τ' z g1 g2 => h τ' z (fun i y hy => g1 i y (by rw [List.reverse_cons, List.append_assoc]; exact hy)) g2)
      · cases hy with
        | head => exact l
        | tail _ hy => exact hB y hy
      · have hi : i < R.length := by
          have := (List.getElem?_eq_some_iff.mp hy).1; simpa using this
        show (if 99 = 99 ∧ i = R.length + 1 ∧ 0 = 0 then _ else τ.1 99 0 i) = _
        rw [if_neg (by omega)]
        exact aR i y (by rw [List.reverse_cons, List.getElem?_append_left (by simpa using hi)]; exact hy)
      · show (if 99 = 99 ∧ R.length + 1 + i = R.length + 1 ∧ 0 = 0 then (x : Int) else τ.1 99 0 (R.length + 1 + i)) = _
        cases i with
        | zero => rw [if_pos ⟨rfl, rfl, rfl⟩]; simp at hy; rw [hy]
        | succ i =>
          rw [if_neg (by omega)]
          have := aB i y (by simpa using hy)
          rw [show R.length + 1 + (i + 1) = R.length + 1 + 1 + i by omega]; exact this
def mOrd (σ τ : zS) : Prop := ∀ j x : Nat, (uOrd (mD σ))[j]? = some x → τ.1 99 0 j = (x : Int)
theorem zs_158d {d : Nat} {σ τ : zS} {Q : Option zV → zS → Prop} (hn : σ.1 10 0 4 = (uN (mD σ) : Int)) (hN : uN (mD σ) ≤ 16) (F : mRds σ τ)
    (h : ∀ (τ' : zS) (y : Option zV), mRds σ τ' → mOrd σ τ' → zX (d + 6) 158 110 [some (.inr (.inr (10, 0))), some (.inl 0), y] [] (yR σ τ') Q) : zX (d + 6) 158 69 [some (.inr (.inr (10, 0))), some (.inl 0), none] [] (yR σ τ) Q := by
  have L := zLoop (P := fun k => ∀ (τ : zS) (y : Option zV), (∀ i x : Nat, ((uSrt (uLt (mD σ)) k).reverse)[i]? = some x → τ.1 99 0 i = (x : Int)) → mRds σ τ → zX (d + 6) 158 69 [some (.inr (.inr (10, 0))), some (.inl (k : Int)), y] [] (yR σ τ) Q) (k := 0) (N := uN (mD σ)) (by omega) (fun τ y I F => ?_) (fun k _ hk ih τ y I F => ?_)
  · exact L τ none (fun i x hx => by simp [uSrt] at hx) F
  · have ge : (yR σ τ).1 10 0 4 ≤ (uN (mD σ) : Int) := Int.le_of_eq hn
    exact zb_158d (fun _ => h τ y F I) (fun q => absurd ge q)
  · have lt : ¬ (yR σ τ).1 10 0 4 ≤ (k : Int) := mNk hk _ hn
    refine zb_158d (fun q => absurd q lt) (fun _ => ?_)
    have := zs_158i (d := d) (Q := Q) hk hN (uSrt (uLt (mD σ)) k) (B := []) (τ := τ) (by rw [uSrt_len]; rfl) (fun x hx => by have := uSrt_mem.mp hx; omega) (fun x hx => by cases hx) I (fun i x hx => by simp at hx) F (fun τ' y g1 g2 => ih τ' y g1 g2)
    rw [uSrt_len] at this
    exact this
def mL0 (σ τ : zS) (k : Nat) : Prop := ∀ r, r < k → ¬ mD σ 3 r = 0 → τ.1 87 0 r = mD σ 5 r ∧ τ.2 85 0 r = 0
theorem zs_158f {d : Nat} {σ τ : zS} {Q : Option zV → zS → Prop} {x : Option zV} (F : mRds σ τ) (G : mOrd σ τ)
    (h : ∀ τ' : zS, mRds σ τ' → mOrd σ τ' → mL0 σ τ' 7 → zX (d + 6) 158 137 [some (.inr (.inr (10, 0))), some (.inl 0), x] [] (yR σ τ') Q) : zX (d + 6) 158 110 [some (.inr (.inr (10, 0))), some (.inl 0), x] [] (yR σ τ) Q := by
  refine zLoop (P := fun k => ∀ τ : zS, mRds σ τ → mOrd σ τ → mL0 σ τ k → zX (d + 6) 158 110 [some (.inr (.inr (10, 0))), some (.inl (k : Int)), x] [] (yR σ τ) Q) (k := 0) (N := 7) (by omega) (fun τ F G I => ?_) (fun k _ hk ih τ F G I => ?_) τ F G (fun r hr => absurd hr (by omega))
  · exact zb_158f (fun q => absurd (by decide) q) (fun q => absurd (by decide) q) (fun q => absurd (by decide) q) (fun _ => h τ F G I) (fun q => absurd (by decide) q) (fun q => absurd (by decide) q)
  · have nx : ∀ v, (¬ mD σ 3 k = 0 → v = mD σ 5 k) → zX (d + 6) 158 110 [some (.inr (.inr (10, 0))), some (.inl (zW ((k : Int) + 1))), x] [] (zUL (zU (yR σ τ) 87 0 k v) 85 0 k 0) Q := by
      intro v hv
      rw [yR_U rfl, yR_UL rfl, zWs (by omega)]
      refine ih _ F G (fun r hr ht => ⟨?_, ?_⟩)
      · show (if 87 = 87 ∧ r = k ∧ 0 = 0 then v else τ.1 87 0 r) = _
        by_cases e : r = k
        · rw [if_pos ⟨rfl, e, rfl⟩, e]; rw [e] at ht; exact hv ht
        · rw [if_neg (fun q => e q.2.1)]; exact (I r (by omega) ht).1
      · show (if 85 = 85 ∧ r = k ∧ 0 = 0 then 0 else τ.2 85 0 r) = _
        by_cases e : r = k
        · rw [if_pos ⟨rfl, e, rfl⟩]
        · rw [if_neg (fun q => e q.2.1)]; exact (I r (by omega) ht).2
    refine zb_158f (fun _ => by omega) (fun _ _ => by omega) (fun _ _ => by omega) (fun q => absurd q (by omega)) (fun _ a => nx 0 (fun q => absurd (show mD σ 3 k = 0 from a) q)) (fun _ _ => nx _ (fun _ => rfl))
