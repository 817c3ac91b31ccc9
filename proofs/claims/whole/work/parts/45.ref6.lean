-- the reference: flows whole (wip/whole/gen/laws25.py)
def mFin (τ : zS) (D V : uT) (m : Nat) : Prop := (∀ r, r < 7 → ¬ D 3 r = 0 → τ.1 87 0 (7 * m + r) = V 0 r ∧ τ.2 85 0 (7 * m + r) = V 1 r) ∧
  (0 < m → ∀ h, h < uN D → τ.1 93 0 (17 * (m - 1) + h) = uBack D h (V 2 h) ∧ τ.2 94 0 (17 * (m - 1) + h) = V 3 h) ∧ (m = 0 → ∀ r, uRet D V r = 0 ∧ uRetS D V r = 0)
def mRow (τ : zS) (D V : uT) (m r : Nat) : Prop := τ.1 78 0 (7 * m + r) = D 0 (96 * r + m) ∧ τ.1 79 0 (7 * m + r) = uRet D V r ∧ τ.1 80 0 (7 * m + r) = uCm D V m r (uAm D V m r) ∧ τ.1 81 0 (7 * m + r) = uWat D V m r (uAm D V m r) ∧ τ.1 82 0 (7 * m + r) = (uAm D V m (r + 1)).1 ∧ τ.2 83 0 (7 * m + r) = uCs D V m r (uAm D V m r) ∧ τ.2 84 0 (7 * m + r) = (uAm D V m (r + 1)).2.1 ∧
  (¬ D 3 r = 0 → τ.1 88 0 (7 * m + r) = uStm D V r ∧ τ.1 89 0 (7 * m + r) = uOut D V m r (uAm D V m r) ∧ τ.1 90 0 (7 * m + r) = zW ((V 0 r).tdiv 100) ∧ τ.2 86 0 (7 * m + r) = zW ((V 0 r).tdiv 100) * uOut D V m r (uAm D V m r) ∧ (m < 95 → τ.1 87 0 (7 * m + r + 7) = uNx D m V 0 r ∧ τ.2 85 0 (7 * m + r + 7) = uNx D m V 1 r))
def mHold (τ : zS) (D V : uT) (m h : Nat) : Prop := τ.1 91 0 (17 * m + h) = uWants D h m (uLevs D V) ∧ τ.1 92 0 (17 * m + h) = uNx D m V 2 h ∧ τ.1 93 0 (17 * m + h) = uBack D h (uNx D m V 2 h) ∧ τ.2 94 0 (17 * m + h) = uNx D m V 3 h
/-- what flows leaves as it was -/
def mFrm (τ τ' : zS) (D : uT) (m r : Nat) : Prop := (∀ j, ¬ j = 7 * m + r → (∀ k, 78 ≤ k → k ≤ 82 → τ'.1 k 0 j = τ.1 k 0 j) ∧ (∀ k, 88 ≤ k → k ≤ 90 → τ'.1 k 0 j = τ.1 k 0 j) ∧ τ'.2 83 0 j = τ.2 83 0 j ∧ τ'.2 84 0 j = τ.2 84 0 j ∧ τ'.2 86 0 j = τ.2 86 0 j) ∧
  (∀ j, ¬ j = 7 * m + r + 7 → τ'.1 87 0 j = τ.1 87 0 j ∧ τ'.2 85 0 j = τ.2 85 0 j) ∧
  (∀ j, ¬ (∃ x, x < uN D ∧ D 10 x = (r : Int) ∧ j = 17 * m + x) → τ'.1 91 0 j = τ.1 91 0 j ∧ τ'.1 92 0 j = τ.1 92 0 j ∧ τ'.1 93 0 j = τ.1 93 0 j ∧ τ'.2 94 0 j = τ.2 94 0 j) ∧
  τ'.1 99 = τ.1 99 ∧ τ'.1 100 = τ.1 100
def mMd (τ τ' : zS) (D V : uT) (m r : Nat) : Prop :=
  ((∀ j, τ'.1 78 0 j = if j = 7 * m + r then D 0 (96 * r + m) else τ.1 78 0 j) ∧ (∀ j, τ'.1 79 0 j = if j = 7 * m + r then uRet D V r else τ.1 79 0 j) ∧ (∀ j, τ'.1 80 0 j = if j = 7 * m + r then uCm D V m r (uAm D V m r) else τ.1 80 0 j) ∧ (∀ j, τ'.1 81 0 j = if j = 7 * m + r then uWat D V m r (uAm D V m r) else τ.1 81 0 j) ∧ (∀ j, τ'.2 83 0 j = if j = 7 * m + r then uCs D V m r (uAm D V m r) else τ.2 83 0 j)) ∧
  (∀ j, ¬ j = 7 * m + r → (∀ k, 88 ≤ k → k ≤ 90 → τ'.1 k 0 j = τ.1 k 0 j) ∧ τ'.2 86 0 j = τ.2 86 0 j) ∧ (∀ j, ¬ j = 7 * m + r + 7 → τ'.1 87 0 j = τ.1 87 0 j ∧ τ'.2 85 0 j = τ.2 85 0 j) ∧
  (¬ D 3 r = 0 → τ'.1 88 0 (7 * m + r) = uStm D V r ∧ τ'.1 89 0 (7 * m + r) = uOut D V m r (uAm D V m r) ∧ τ'.1 90 0 (7 * m + r) = zW ((V 0 r).tdiv 100) ∧ τ'.2 86 0 (7 * m + r) = zW ((V 0 r).tdiv 100) * uOut D V m r (uAm D V m r) ∧ (m < 95 → τ'.1 87 0 (7 * m + r + 7) = uNx D m V 0 r ∧ τ'.2 85 0 (7 * m + r + 7) = uNx D m V 1 r)) ∧
  (∀ k, k = 82 ∨ (91 ≤ k ∧ k ≤ 100) → τ'.1 k = τ.1 k) ∧ (∀ k, k = 84 ∨ k = 94 → τ'.2 k = τ.2 k)
/-- flows, from its instruction 266 -/
theorem zs_159t {d : Nat} {σ τ τ2 : zS} {Q : Option zV → zS → Prop} {r m : Nat} {V : uT} {x8 x9 x10 x11 x12 : Option zV} (hr : r < 7) (hm : m < 96) (O : uOk (mD σ)) (hV : uVk (mD σ) V (m * 205236)) (H : ∀ h, h < uN (mD σ) → mHok σ h) (C : mCok σ) (hn : 0 ≤ σ.1 10 0 4)
    (hO : ∀ j x : Nat, (uOrd (mD σ))[j]? = some x → τ.1 99 0 j = (x : Int)) (hR : ∀ x, x < 7 → τ.1 100 0 (7 * m + x) = mRead σ x m) (F : mFin τ (mD σ) V m) (M : mMd τ τ2 (mD σ) V m r)
    (h : ∀ τ' : zS, mRow τ' (mD σ) V m r → (∀ h, h < uN (mD σ) → mD σ 10 h = (r : Int) → mHold τ' (mD σ) V m h) → mFrm τ τ' (mD σ) m r → Q none (yR σ τ')) :
    zX (d + 5) 159 266 [some (.inr (.inr (10, 0))), some (.inl (r : Int)), some (.inl (m : Int)), some (.inl ((7 * m + r : Nat) : Int)), some (.inr (.inl (uWs (mD σ) V m r (uAm (mD σ) V m r)))), none, some (.inl (uWat (mD σ) V m r (uAm (mD σ) V m r))), some (.inl 0), x8, x9, x10, x11, x12] [] (yR σ τ2) Q := by
  have B := uBd O hm hr hV
  obtain ⟨⟨M1, M2, M3, M4, M5⟩, M6, M7, M8, M9, M10⟩ := M
  have hl : uLvs (σ.1 55 0) (fun r => τ2.1 87 0 (7 * m + r)) 7 = uLevs (mD σ) V := by
    refine uLvs_congr (fun x hx => ⟨rfl, fun e => ?_⟩)
    rw [(M7 (7 * m + x) (by omega)).1]
    exact (F.1 x hx e).1
  refine zs_159g (lev := uLevs (mD σ) V) hr hm O H C hn (uOrd (mD σ)) (i := 0) (q := (uWat (mD σ) V m r (uAm (mD σ) V m r), uWs (mD σ) V m r (uAm (mD σ) V m r), (uAm (mD σ) V m r).2.2.1, (uAm (mD σ) V m r).2.2.2)) (fun j x hx => by rw [M9 99 (by omega), Nat.zero_add]; exact hO j x hx) (by rw [uOrd_len]; omega) uOrd_nd (fun x hx => uOrd_mem.mp hx) B.2.2.2.2.2.2.2.1 B.2.2.2.2.2.2.2.2.1 hl (fun x hx => by rw [M9 100 (by omega)]; exact hR x hx) (fun τ' P => ?_)
  obtain ⟨P1, P2, P3, P4, P5, P6⟩ := P
  have eA : uServe (mD σ) (fun h => uWants (mD σ) h m (uLevs (mD σ) V)) r (uOrd (mD σ)) (uWat (mD σ) V m r (uAm (mD σ) V m r), uWs (mD σ) V m r (uAm (mD σ) V m r), (uAm (mD σ) V m r).2.2.1, (uAm (mD σ) V m r).2.2.2) = uAm (mD σ) V m (r + 1) := rfl
  rw [eA] at P1 P2 P3
  have k1 : ∀ k, 78 ≤ k → k ≤ 90 → ¬ k = 82 → τ'.1 k = τ2.1 k := fun k a b c => P5 k c (by omega) (by omega) (by omega) (by omega)
  have k2 : ∀ k, ¬ k = 84 → ¬ k = 94 → τ'.2 k = τ2.2 k := P6
  refine h τ' ⟨?_, ?_, ?_, ?_, ?_, ?_, ?_, fun e => ?_⟩ (fun x hx hx2 => ?_) ⟨fun j hj => ⟨fun k a b => ?_, fun k a b => ?_, ?_, ?_, ?_⟩, fun j hj => ?_, fun j hj => ?_, ?_, ?_⟩
  · rw [k1 78 (by decide) (by decide) (by decide), M1, if_pos rfl]
  · rw [k1 79 (by decide) (by decide) (by decide), M2, if_pos rfl]
  · rw [k1 80 (by decide) (by decide) (by decide), M3, if_pos rfl]
  · rw [k1 81 (by decide) (by decide) (by decide), M4, if_pos rfl]
  · rw [P1, if_pos rfl]
  · rw [k2 83 (by decide) (by decide), M5, if_pos rfl]
  · rw [P2, if_pos rfl]
  · rw [k1 88 (by decide) (by decide) (by decide), k1 89 (by decide) (by decide) (by decide), k1 90 (by decide) (by decide) (by decide), k1 87 (by decide) (by decide) (by decide), k2 86 (by decide) (by decide), k2 85 (by decide) (by decide)]
    exact M8 e
  · have o := uNx_2 (V := V) (m := m) hr hx2
    have p := P3 x (uOrd_mem.mpr hx) hx2
    unfold mHold
    rw [o.1, o.2]
    exact p
  · by_cases c : k = 82
    · subst c; rw [P1, if_neg hj, M9 82 (by omega)]
    · rw [k1 k a (by omega) c]
      rcases (show k = 78 ∨ k = 79 ∨ k = 80 ∨ k = 81 by omega) with rfl | rfl | rfl | rfl
      · rw [M1, if_neg hj]
      · rw [M2, if_neg hj]
      · rw [M3, if_neg hj]
      · rw [M4, if_neg hj]
  · rw [k1 k (by omega) b (by omega)]; exact (M6 j hj).1 k a b
  · rw [k2 83 (by decide) (by decide), M5, if_neg hj]
  · rw [P2, if_neg hj, M10 84 (by omega)]
  · rw [k2 86 (by decide) (by decide)]; exact (M6 j hj).2
  · rw [k1 87 (by decide) (by decide) (by decide), k2 85 (by decide) (by decide)]; exact M7 j hj
  · have := P4 j (fun ⟨x, a, b, c⟩ => hj ⟨x, uOrd_mem.mp a, b, c⟩)
    rw [M9 91 (by omega), M9 92 (by omega), M9 93 (by omega), M10 94 (by omega)] at this
    exact this
  · rw [P5 99 (by decide) (by decide) (by decide) (by decide) (by decide), M9 99 (by omega)]
  · rw [P5 100 (by decide) (by decide) (by decide) (by decide) (by decide), M9 100 (by omega)]
