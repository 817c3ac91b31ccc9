-- sum, the calls (wip/whole/gen/laws49.py)
-- X9_sum
theorem zb_89 {d : Nat} {σ : zS} {Q : Option zV → zS → Prop} {w : Int}
    (o1 : 0 ≤ w ∧ w ≤ 7 → (0 : Int) ≤ 96 ∧ 96 ≤ (96 : Int))
    (o2 : 0 ≤ w ∧ w ≤ 7 → yRel σ)
    (h1 : 0 ≤ w ∧ w ≤ 7 → ∀ G1 : Nat → Nat → Nat → Int, cWk (zG σ G1) 0 (mD σ) 96 → yRel (zG σ G1) → cOth σ G1 0 → zX (d + 15) 89 12 [some (.inr (.inr (9, 0))), some (.inl w)] [.inr (.inr (9, 0))] (zG σ G1) Q)
    (h2 : ¬ (0 ≤ w ∧ w ≤ 7) → Q (some (.inr (.inl (-4611686018427387904)))) σ) :
    zM (d + 15) 89 [.inr (.inr (9, 0)), .inl w] σ Q := by
  refine zX_run (n' := 3) (ls' := [some (.inr (.inr (9, 0))), some (.inl w)]) (st' := [.inl 7, .inl 0, .inl w]) (σ' := σ) 3 rfl ?_
  refine zX_call rfl rfl ?_
  refine zs_104 (fun a1 => ?_) (fun a2 => ?_)
  · skip
    refine zX_run (n' := 10) (ls' := [some (.inr (.inr (9, 0))), some (.inl w)]) (st' := [.inl 96, .inr (.inr (0, 0))]) (σ' := σ) 4 rfl ?_
    refine zX_call rfl rfl ?_
    refine ys_2 (o1 a1) (o2 a1) (fun G1 a3 a4 a5 => ?_)
    · skip
      refine zX_run (n' := 12) (ls' := [some (.inr (.inr (9, 0))), some (.inl w)]) (st' := [.inr (.inr (9, 0))]) (σ' := (zG σ G1)) 1 rfl ?_
      exact h1 a1 G1 a3 a4 a5
  · skip
    refine zX_run (n' := 6) (ls' := [some (.inr (.inr (9, 0))), some (.inl w)]) (st' := [.inr (.inl (-4611686018427387904))]) (σ' := σ) 2 rfl ?_
    exact zX_retL rfl rfl (h2 a2)
abbrev z169 (d n : Nat) (w v m : Int) (x y : Option zV) (σ : zS) (Q : Option zV → zS → Prop) : Prop := zX (d + 7) 169 n [some (.inr (.inr (10, 0))), some (.inl w), some (.inr (.inl v)), none, some (.inl m), x, y] [] σ Q
theorem zWlA {v q : Int} (h1 : -1000000000000000 ≤ v ∧ v ≤ 1000000000000000) (h2 : -2147483648 ≤ q ∧ q ≤ 2147483648) : zWl (v + q) = v + q := zWlI (by omega)
theorem zMulB {a b : Int} (ha : 0 ≤ a ∧ a ≤ 999) (hb : 0 ≤ b ∧ b ≤ 2089807) : 0 ≤ a * b ∧ a * b ≤ 2147483647 := by
  have h1 : 0 ≤ a * b := Int.mul_nonneg ha.1 hb.1
  have h2 : a * b ≤ 999 * 2089807 := Int.mul_le_mul ha.2 hb.2 hb.1 (by decide)
  omega
theorem zTdB {x : Int} (h : 0 ≤ x ∧ x ≤ 99999) : 0 ≤ zW (x.tdiv 100) ∧ zW (x.tdiv 100) ≤ 999 := by
  rw [Int.tdiv_eq_ediv_of_nonneg h.1]
  unfold zW; omega
/-- the power is below 2^31 -/
theorem vPow_e {D : uT} {r m : Nat} (O : uOk D) (hm : m < 96) (hr : r < 7) (ht : ¬ D 3 r = 0) : vPow D r m = zW ((uV D m 0 r).tdiv 100) * uOut D (uV D m) m r (uAm D (uV D m) m r) := by
  have K := uV_k O m (Nat.le_of_lt hm)
  have B := (uBd O hm hr K).2.2.2.2.2.2.2.1
  have e : uWat D (uV D m) m r (uAm D (uV D m) m r) = uOut D (uV D m) m r (uAm D (uV D m) m r) := if_neg ht
  rw [e] at B
  have l := (K.1 r hr).2.1 ht
  have lok := O.2.2.2.1 r hr ht
  have d4 : D 4 r ≤ 99999 := by unfold uLok at lok; omega
  have P := zMulB (zTdB (x := uV D m 0 r) ⟨l.1, Int.le_trans l.2 d4⟩) B
  exact zWi P
theorem zS169r {d : Nat} {σ τ : zS} {Q : Option zV → zS → Prop} {w v : Int} {m r : Nat} (O : uOk (mD σ)) (M : mRun σ τ 96 0) (m96 : m < 96) (hr : r < 7) (hv : -1000000000000000 ≤ v ∧ v ≤ 1000000000000000)
    (h : z169 d 32 w (v + vQ (mD σ) w m r) (m : Int) (some (.inl ((r + 1 : Nat) : Int))) (some (.inl ((7 * m + r : Nat) : Int))) (yR σ τ) Q) :
    z169 d 41 w v (m : Int) (some (.inl (r : Int))) (some (.inl ((7 * m + r : Nat) : Int))) (yR σ τ) Q := by
  have ik : (0 : Int) ≤ ((7 * m + r : Nat) : Int) ∧ ((7 * m + r : Nat) : Int) < 672 := by omega
  have ir : (0 : Int) ≤ (r : Int) ∧ (r : Int) < 7 := by omega
  have hz : zW ((r : Int) + 1) = ((r + 1 : Nat) : Int) := zWs (by omega)
  have qb := vQ_b (w := w) O m96 hr
  have row := mr_r M m96 hr
  have eE : ∀ v', ¬ w = 7 → z169 d 32 w v' (m : Int) (some (.inl ((r + 1 : Nat) : Int))) (some (.inl ((7 * m + r : Nat) : Int))) (yR σ τ) Q → z169 d 79 w v' (m : Int) (some (.inl (r : Int))) (some (.inl ((7 * m + r : Nat) : Int))) (yR σ τ) Q := fun v' n h => zb_169e (fun x => absurd x n) (fun x => absurd x n) (fun _ => by rw [hz]; exact h) (fun x => absurd x n) (fun x => absurd x n)
  have eD : ∀ v', ¬ w = 4 → z169 d 79 w v' (m : Int) (some (.inl (r : Int))) (some (.inl ((7 * m + r : Nat) : Int))) (yR σ τ) Q → z169 d 68 w v' (m : Int) (some (.inl (r : Int))) (some (.inl ((7 * m + r : Nat) : Int))) (yR σ τ) Q := fun v' n h => zb_169d (fun x => absurd x n) (fun _ => h) (fun x => absurd x n)
  have eC : ∀ v', ¬ w = 3 → z169 d 68 w v' (m : Int) (some (.inl (r : Int))) (some (.inl ((7 * m + r : Nat) : Int))) (yR σ τ) Q → z169 d 52 w v' (m : Int) (some (.inl (r : Int))) (some (.inl ((7 * m + r : Nat) : Int))) (yR σ τ) Q := fun v' n h => zb_169c (fun x => absurd x n) (fun x => absurd x n) (fun _ => h) (fun x => absurd x n) (fun x => absurd x n)
  have eB : ∀ v', ¬ w = 1 → z169 d 52 w v' (m : Int) (some (.inl (r : Int))) (some (.inl ((7 * m + r : Nat) : Int))) (yR σ τ) Q → z169 d 41 w v' (m : Int) (some (.inl (r : Int))) (some (.inl ((7 * m + r : Nat) : Int))) (yR σ τ) Q := fun v' n h => zb_169b (fun x => absurd x n) (fun _ => h) (fun x => absurd x n)
  by_cases w1 : w = 1
  · subst w1
    refine zb_169b (fun _ => ik) (fun x => absurd rfl x) (fun _ => ?_)
    have e : (yR σ τ).1 78 0 (((7 * m + r : Nat) : Int)).toNat = vQ (mD σ) 1 m r := row.1
    rw [e, zWlA hv qb]
    exact eC _ (by decide) (eD _ (by decide) (eE _ (by decide) h))
  · refine eB _ w1 ?_
    by_cases w3 : w = 3
    · subst w3
      by_cases t : mD σ 3 r = 0
      · have e : vQ (mD σ) 3 m r = 0 := by show (if mD σ 3 r = 0 then 0 else uStm (mD σ) (uV (mD σ) m) r) = 0; exact if_pos t
        rw [e, Int.add_zero] at h
        have k := eD _ (by decide) (eE _ (by decide) h)
        exact zb_169c (fun _ => ir) (fun _ _ => ik) (fun x => absurd rfl x) (fun _ _ => k) (fun _ x => absurd t x)
      · have e : (yR σ τ).1 88 0 (((7 * m + r : Nat) : Int)).toNat = vQ (mD σ) 3 m r := (row.2.2.2.2.2.2.2 t).1.trans (show (if mD σ 3 r = 0 then 0 else uStm (mD σ) (uV (mD σ) m) r) = _ from if_neg t).symm
        refine zb_169c (fun _ => ir) (fun _ _ => ik) (fun x => absurd rfl x) (fun _ x => absurd x t) (fun _ _ => ?_)
        rw [e, zWlA hv qb]
        exact eD _ (by decide) (eE _ (by decide) h)
    · refine eC _ w3 ?_
      by_cases w4 : w = 4
      · subst w4
        refine zb_169d (fun _ => ik) (fun x => absurd rfl x) (fun _ => ?_)
        have e : (yR σ τ).1 79 0 (((7 * m + r : Nat) : Int)).toNat = vQ (mD σ) 4 m r := row.2.1
        rw [e, zWlA hv qb]
        exact eE _ (by decide) h
      · refine eD _ w4 ?_
        by_cases w7 : w = 7
        · subst w7
          by_cases t : mD σ 3 r = 0
          · have e : vQ (mD σ) 7 m r = 0 := by show (if mD σ 3 r = 0 then 0 else vPow (mD σ) r m) = 0; exact if_pos t
            rw [e, Int.add_zero] at h
            exact zb_169e (fun _ => ir) (fun _ _ => ik) (fun x => absurd rfl x) (fun _ _ => by rw [hz]; exact h) (fun _ x => absurd t x)
          · have B := uBd O m96 hr (uV_k O m (Nat.le_of_lt m96))
            have e : (yR σ τ).2 86 0 (((7 * m + r : Nat) : Int)).toNat = vQ (mD σ) 7 m r := (row.2.2.2.2.2.2.2 t).2.2.2.1.trans ((vPow_e O m96 hr t).symm.trans (show (if mD σ 3 r = 0 then 0 else vPow (mD σ) r m) = _ from if_neg t).symm)
            refine zb_169e (fun _ => ir) (fun _ _ => ik) (fun x => absurd rfl x) (fun _ x => absurd x t) (fun _ _ => ?_)
            rw [e, zWlA hv qb, hz]
            exact h
        · have e : vQ (mD σ) w m r = 0 := by unfold vQ; rw [if_neg w1, if_neg w3, if_neg w4, if_neg w7]
          rw [e, Int.add_zero] at h
          exact eE _ w7 h
theorem zS169h {d : Nat} {σ τ : zS} {Q : Option zV → zS → Prop} {w v : Int} {m h : Nat} (O : uOk (mD σ)) (M : mRun σ τ 96 0) (m96 : m < 96) (hh : h < uN (mD σ)) (hv : -1000000000000000 ≤ v ∧ v ≤ 1000000000000000)
    (q : z169 d 98 w (v + vT (mD σ) w m h) (m : Int) (some (.inl ((h + 1 : Nat) : Int))) (some (.inl ((17 * m + h : Nat) : Int))) (yR σ τ) Q) :
    z169 d 108 w v (m : Int) (some (.inl (h : Int))) (some (.inl ((17 * m + h : Nat) : Int))) (yR σ τ) Q := by
  have N := O.2.2.2.2.1
  have ik : (0 : Int) ≤ ((17 * m + h : Nat) : Int) ∧ ((17 * m + h : Nat) : Int) < 1632 := by clear q; omega
  have ir : (0 : Int) ≤ (h : Int) ∧ (h : Int) < 17 := by clear q; omega
  have hz : zW ((h : Int) + 1) = ((h + 1 : Nat) : Int) := zWs (by clear q; omega)
  have qb := vT_b (w := w) O m96 hh
  have row : mHold τ (mD σ) (uV (mD σ) m) m h := M.2.2.2.2 m h m96 hh (.inl m96)
  have eJ : ∀ v', ¬ w = 6 → z169 d 98 w v' (m : Int) (some (.inl ((h + 1 : Nat) : Int))) (some (.inl ((17 * m + h : Nat) : Int))) (yR σ τ) Q → z169 d 136 w v' (m : Int) (some (.inl (h : Int))) (some (.inl ((17 * m + h : Nat) : Int))) (yR σ τ) Q := fun v' n q => zb_169j (fun x => absurd x n) (fun x => absurd x n) (fun _ => by rw [hz]; exact q) (fun x => absurd x n) (fun x => absurd x n) (fun x => absurd x n)
  have eI : ∀ v', ¬ w = 5 → z169 d 136 w v' (m : Int) (some (.inl (h : Int))) (some (.inl ((17 * m + h : Nat) : Int))) (yR σ τ) Q → z169 d 119 w v' (m : Int) (some (.inl (h : Int))) (some (.inl ((17 * m + h : Nat) : Int))) (yR σ τ) Q := fun v' n q => zb_169i (fun x => absurd x n) (fun x => absurd x n) (fun _ => q) (fun x => absurd x n) (fun x => absurd x n)
  have eH : ∀ v', ¬ w = 2 → z169 d 119 w v' (m : Int) (some (.inl (h : Int))) (some (.inl ((17 * m + h : Nat) : Int))) (yR σ τ) Q → z169 d 108 w v' (m : Int) (some (.inl (h : Int))) (some (.inl ((17 * m + h : Nat) : Int))) (yR σ τ) Q := fun v' n q => zb_169h (fun x => absurd x n) (fun _ => q) (fun x => absurd x n)
  by_cases w2 : w = 2
  · subst w2
    refine zb_169h (fun _ => ik) (fun x => absurd rfl x) (fun _ => ?_)
    have e : (yR σ τ).1 92 0 (((17 * m + h : Nat) : Int)).toNat = vT (mD σ) 2 m h := row.2.1
    rw [e, zWlA hv qb]
    exact eI _ (by decide) (eJ _ (by decide) q)
  · refine eH _ w2 ?_
    by_cases w5 : w = 5
    · subst w5
      by_cases t : mD σ 10 h = 6
      · have e : (yR σ τ).1 93 0 (((17 * m + h : Nat) : Int)).toNat = vT (mD σ) 5 m h := row.2.2.1.trans (show (if mD σ 10 h = 6 then uBack (mD σ) h (uV (mD σ) (m + 1) 2 h) else 0) = _ from if_pos t).symm
        refine zb_169i (fun _ => ir) (fun _ _ => ik) (fun x => absurd rfl x) (fun _ x => absurd t x) (fun _ _ => ?_)
        rw [e, zWlA hv qb]
        exact eJ _ (by decide) q
      · have e : vT (mD σ) 5 m h = 0 := by show (if mD σ 10 h = 6 then uBack (mD σ) h (uV (mD σ) (m + 1) 2 h) else 0) = 0; exact if_neg t
        rw [e, Int.add_zero] at q
        have k := eJ _ (by decide) q
        exact zb_169i (fun _ => ir) (fun _ _ => ik) (fun x => absurd rfl x) (fun _ _ => k) (fun _ x => absurd x t)
    · refine eI _ w5 ?_
      by_cases w6 : w = 6
      · subst w6
        by_cases t : mD σ 10 h < 6 ∧ m = 95
        · have e : (yR σ τ).1 93 0 (((17 * m + h : Nat) : Int)).toNat = vT (mD σ) 6 m h := row.2.2.1.trans (show (if mD σ 10 h < 6 ∧ m = 95 then uBack (mD σ) h (uV (mD σ) (m + 1) 2 h) else 0) = _ from if_pos t).symm
          have m95 : (m : Int) = 95 := by rw [t.2]; rfl
          refine zb_169j (fun _ => ir) (fun _ _ _ => ik) (fun x => absurd rfl x) (fun _ x => absurd t.1 (Int.not_lt.mpr x)) (fun _ _ x => absurd m95 x) (fun _ _ _ => ?_)
          rw [e, zWlA hv qb, hz]
          exact q
        · have e : vT (mD σ) 6 m h = 0 := by show (if mD σ 10 h < 6 ∧ m = 95 then uBack (mD σ) h (uV (mD σ) (m + 1) 2 h) else 0) = 0; exact if_neg t
          rw [e, Int.add_zero] at q
          rw [← hz] at q
          exact zb_169j (fun _ => ir) (fun _ _ _ => ik) (fun x => absurd rfl x) (fun _ _ => q) (fun _ _ _ => q) (fun _ x y => absurd ⟨Int.not_le.mp x, Int.ofNat.inj y⟩ t)
      · have e : vT (mD σ) w m h = 0 := by unfold vT; rw [if_neg w2, if_neg w5, if_neg w6]
        rw [e, Int.add_zero] at q
        exact eJ _ w6 q
