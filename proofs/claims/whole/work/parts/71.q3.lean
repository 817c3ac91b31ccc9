-- sharp, owed, breaks (wip/whole/gen/laws46.py)
def uShp (on salt : Int) : Int := if on = 0 then 0 else zW (uMinL (zWl ((zWl (salt * 1000)).tdiv on)) 1000000)
def mSharp (σ : zS) (m : Nat) : Int := uShp (σ.1 82 0 (7 * m + 6)) (σ.2 84 0 (7 * m + 6))
theorem zs_167 {d : Nat} {σ : zS} {Q : Option zV → zS → Prop} {m : Int} (o : 0 ≤ m ∧ m < 96) (h : Q (some (.inl (mSharp σ m.toNat))) σ) : zM d 167 [.inr (.inr (10, 0)), .inl m] σ Q := by
  obtain ⟨m, rfl⟩ := Int.eq_ofNat_of_zero_le o.1
  have ix : (0 : Int) ≤ ((7 * m + 6 : Nat) : Int) ∧ ((7 * m + 6 : Nat) : Int) < 672 := by omega
  have z : zW ((zW (7 * (m : Int))) + 6) = ((7 * m + 6 : Nat) : Int) := by unfold zW; omega
  rw [Int.toNat_natCast] at h
  have E : ∀ v, mSharp σ m = v → Q (some (.inl v)) σ := fun v e => e ▸ h
  refine zm_167 (by rw [z]; exact ix) (fun _ => by rw [z]; exact ix) (fun _ => by rw [z]; exact ix) (fun x => x) (fun a b => ?_) (fun a b => ?_) (fun a b => ?_) (fun a => ?_)
  all_goals refine E _ ?_
  all_goals unfold mSharp uShp
  all_goals rw [z, Int.toNat_natCast] at a
  · rw [z, Int.toNat_natCast] at b
    rw [if_neg a]
    unfold uMinL
    rw [if_pos b]; rfl
  · rw [z, Int.toNat_natCast] at b
    rw [if_neg a, z, Int.toNat_natCast, b]; rfl
  · rw [z, Int.toNat_natCast] at b
    rw [if_neg a, z, Int.toNat_natCast]
    unfold uMinL
    rw [if_neg (Int.not_lt.mpr (Int.le_of_lt b))]
  · rw [if_pos a]
def vShp (D : uT) (m : Nat) : Int := uShp (uAm D (uV D m) m 7).1 (uAm D (uV D m) m 7).2.1
def vSharp (D : uT) (m : Int) : Int := if 0 ≤ m ∧ m ≤ 95 then vShp D m.toNat else -2
theorem cw_shp {s : zS} {f : Nat} {D : uT} {M : Int} {m : Nat} (W : cWk s f D M) (hm : (m : Int) < M) : cSharp s f m = vShp D m := by
  have r := cw_r W hm (r := 6) (by decide)
  unfold cSharp vShp uShp
  rw [r.2.2.2.1, r.2.2.2.2.1]
theorem mr_shp {σ τ : zS} {m : Nat} (M : mRun σ τ 96 0) (hm : m < 96) : mSharp (yR σ τ) m = vShp (mD σ) m := by
  have r := mr_r (r := 6) M hm (by decide)
  show uShp (τ.1 82 0 (7 * m + 6)) (τ.2 84 0 (7 * m + 6)) = _
  rw [r.2.2.2.2.1, r.2.2.2.2.2.2.1]; rfl
-- X10_sharp
theorem zb_168s {d : Nat} {σ : zS} {Q : Option zV → zS → Prop} {m : Int}
    (o1 : 0 ≤ m ∧ m < 96 → yRel σ)
    (o2 : 0 ≤ m ∧ m < 96 → ∀ G1 : zS, mRun σ G1 96 0 → yRel (yR σ G1) → 0 ≤ m ∧ m < 96)
    (h1 : 0 ≤ m ∧ m < 96 → ∀ G1 : zS, mRun σ G1 96 0 → yRel (yR σ G1) → Q (some (.inl (mSharp (yR σ G1) m.toNat))) (yR σ G1))
    (h2 : ¬ (0 ≤ m ∧ m < 96) → Q (some (.inl (-2))) σ) :
    zM (d + 7) 168 [.inr (.inr (10, 0)), .inl m] σ Q := by
  refine zX_run (n' := 1) (ls' := [some (.inr (.inr (10, 0))), some (.inl m)]) (st' := [.inl m]) (σ' := σ) 1 rfl ?_
  refine zX_call rfl rfl ?_
  refine zs_120 (fun a1 => ?_) (fun a2 => ?_)
  · skip
    refine zX_run (n' := 6) (ls' := [some (.inr (.inr (10, 0))), some (.inl m)]) (st' := [.inr (.inr (10, 0))]) (σ' := σ) 2 rfl ?_
    refine zX_call rfl rfl ?_
    refine ys_158 (o1 a1) (fun G1 a3 a4 => ?_)
    · skip
      refine zX_run (n' := 9) (ls' := [some (.inr (.inr (10, 0))), some (.inl m)]) (st' := [.inl m, .inr (.inr (10, 0))]) (σ' := (yR σ G1)) 2 rfl ?_
      refine zX_call rfl rfl ?_
      refine zs_167 (o2 a1 G1 a3 a4) ?_
      · skip
        exact zX_ret rfl rfl (h1 a1 G1 a3 a4)
  · skip
    refine zX_run (n' := 4) (ls' := [some (.inr (.inr (10, 0))), some (.inl m)]) (st' := [.inl (-2)]) (σ' := σ) 2 rfl ?_
    exact zX_ret rfl rfl (h2 a2)
theorem yc_88 {d : Nat} (m : Int) : yC (d + 60) 88 [.inl m] (fun s => .inl (vSharp (mD s) m)) := fun σ Q R q => by
  have q : ∀ s, yE σ s → yRel s → Q (some (.inl (vSharp (mD σ) m))) s := q
  by_cases P : 0 ≤ m ∧ m ≤ 95
  case neg =>
    rw [show vSharp (mD σ) m = -2 from if_neg P] at q
    have qn := q
    have q := q _ yE_r R
    have nb : ¬ (0 ≤ m ∧ m ≤ 95) := P
    clear P
    refine zb_88 (fun a0 => (absurd (by omega) nb))
      (fun a0 => (absurd (by omega) nb))
      (fun a0 G1 a2 a3 a4 => (absurd (by omega) nb))
      (fun a0 G1 a2 a3 a4 => (absurd (by omega) nb))
      (fun a0 => q)
  have P' : 0 ≤ m ∧ m ≤ 95 := P
  obtain ⟨m, rfl⟩ := Int.eq_ofNat_of_zero_le P.1
  have hm1 : (m : Int) < ((m + 1 : Nat) : Int) := by omega
  have m96 : m < 96 := by omega
  have z1 : zW ((m : Int) + 1) = ((m + 1 : Nat) : Int) := by unfold zW; omega
  refine zb_88 (fun a0 => (by rw [z1]; omega))
      (fun a0 => R)
      (fun a0 G1 a2 a3 a4 => (by omega))
      (fun a0 G1 a2 a3 a4 => (yA (by unfold vSharp; rw [if_pos P]; exact (cw_shp (z1 ▸ a2) hm1).symm) (q _ yE_G a3)))
      (fun a0 => (by exfalso; omega))
theorem ym_168 {d : Nat} (m : Int) : yM (d + 60) 168 [.inl m] (fun s => .inl (vSharp (mD s) m)) := fun σ Q R q => by
  have q : ∀ s, yRel s → Q (some (.inl (vSharp (mD σ) m))) s := q
  by_cases P : 0 ≤ m ∧ m ≤ 95
  case neg =>
    rw [show vSharp (mD σ) m = -2 from if_neg P] at q
    have qn := q
    have q := q _ R
    have nb : ¬ (0 ≤ m ∧ m ≤ 95) := P
    clear P
    refine zb_168s (fun a0 => (absurd (by omega) nb))
      (fun a0 G1 a2 a3 => (absurd (by omega) nb))
      (fun a0 G1 a2 a3 => (absurd (by omega) nb))
      (fun a0 => q)
  have P' : 0 ≤ m ∧ m ≤ 95 := P
  obtain ⟨m, rfl⟩ := Int.eq_ofNat_of_zero_le P.1
  have hm1 : (m : Int) < ((m + 1 : Nat) : Int) := by omega
  have m96 : m < 96 := by omega
  refine zb_168s (fun a0 => R)
      (fun a0 G1 a2 a3 => (by omega))
      (fun a0 G1 a2 a3 => (yA (by unfold vSharp; rw [if_pos P]; exact (mr_shp a2 m96).symm) (q _ a3)))
      (fun a0 => (by exfalso; omega))
theorem yp_sharp {d : Nat} {σ : zS} (R : yRel σ) (m : Int) : yPi d 88 168 [.inl m] σ :=
  yp_of (f := fun s => vSharp (mD s) m) (yc_88 m) (ym_168 m) (fun σ s e => by show vSharp (mD s) m = _; rw [e.1]) R
-- X0_owedOf
theorem zb_22 {d : Nat} {σ : zS} {Q : Option zV → zS → Prop} {f : Nat} {r : Int} {m : Int} {p : Int} {w : Int}
    (h1 : zW (w - 1) ≤ m → zX (d + 10) 22 16 [some (.inr (.inr (0, f))), some (.inl r), some (.inl m), some (.inl p), some (.inl w), some (.inr (.inl p)), none, some (.inl (zW ((zW (m - w)) + 1)))] [] σ Q)
    (h2 : ¬ zW (w - 1) ≤ m → Q (some (.inr (.inl 0))) σ) :
    zM (d + 10) 22 [.inr (.inr (0, f)), .inl r, .inl m, .inl p, .inl w] σ Q := by
  refine zX_run (n' := 4) (ls' := [some (.inr (.inr (0, f))), some (.inl r), some (.inl m), some (.inl p), some (.inl w), none, none, none]) (st' := [.inl (zW (w - 1)), .inl m]) (σ' := σ) 4 rfl ?_
  refine zX_c3 rfl (fun a1 => ?_) (fun a1 => ?_)
  · skip
    refine zX_run (n' := 16) (ls' := [some (.inr (.inr (0, f))), some (.inl r), some (.inl m), some (.inl p), some (.inl w), some (.inr (.inl p)), none, some (.inl (zW ((zW (m - w)) + 1)))]) (st' := []) (σ' := σ) 9 rfl ?_
    exact h1 a1
  · skip
    refine zX_run (n' := 6) (ls' := [some (.inr (.inr (0, f))), some (.inl r), some (.inl m), some (.inl p), some (.inl w), none, none, none]) (st' := [.inr (.inl 0)]) (σ' := σ) 1 rfl ?_
    exact zX_retL rfl rfl (h2 a1)
-- X0_owedOf
theorem zb_22l {d : Nat} {σ : zS} {Q : Option zV → zS → Prop} {f : Nat} {r m p w v k : Int}
    (o1 : ¬ m < k → (0 : Int) ≤ r ∧ r < (7 : Int))
    (o2 : ¬ m < k → (0 : Int) ≤ k ∧ k < (96 : Int))
    (h1 : m < k → Q (some (.inr (.inl (uMaxL v 0)))) σ)
    (h2 : ¬ m < k → zX (d + 10) 22 16 [some (.inr (.inr (0, f))), some (.inl r), some (.inl m), some (.inl p), some (.inl w), some (.inr (.inl (zWl (v - (σ.1 22 (7 * f + r.toNat) (k.toNat)))))), none, some (.inl (zW (k + 1)))] [] σ Q) :
    zX (d + 10) 22 16 [some (.inr (.inr (0, f))), some (.inl r), some (.inl m), some (.inl p), some (.inl w), some (.inr (.inl v)), none, some (.inl k)] [] σ Q := by
  refine zX_run (n' := 18) (ls' := [some (.inr (.inr (0, f))), some (.inl r), some (.inl m), some (.inl p), some (.inl w), some (.inr (.inl v)), none, some (.inl k)]) (st' := [.inl m, .inl k]) (σ' := σ) 2 rfl ?_
  refine zX_c4 rfl (fun a1 => ?_) (fun a1 => ?_)
  · skip
    refine zX_run (n' := 34) (ls' := [some (.inr (.inr (0, f))), some (.inl r), some (.inl m), some (.inl p), some (.inl w), some (.inr (.inl v)), none, some (.inl k)]) (st' := [.inr (.inl 0), .inr (.inl v)]) (σ' := σ) 2 rfl ?_
    refine zX_b2 rfl (by omega) rfl ?_
    exact zX_retL rfl rfl (h1 a1)
  · skip
    refine zX_run (n' := 23) (ls' := [some (.inr (.inr (0, f))), some (.inl r), some (.inl m), some (.inl p), some (.inl w), some (.inr (.inl v)), none, some (.inl k)]) (st' := [.inl r, .inr (.inr (11, f)), .inr (.inl v)]) (σ' := σ) 4 rfl ?_
    refine zX_ald5 (L := 7) rfl (by decide) rfl (o1 a1) ?_
    refine zX_run (n' := 26) (ls' := [some (.inr (.inr (0, f))), some (.inl r), some (.inl m), some (.inl p), some (.inl w), some (.inr (.inl v)), none, some (.inl k)]) (st' := [.inl k, .inr (.inr (22, 7 * f + r.toNat)), .inr (.inl v)]) (σ' := σ) 2 rfl ?_
    refine zX_ald1 (L := 96) rfl (by decide) rfl (o2 a1) ?_
    refine zX_run (n' := 16) (ls' := [some (.inr (.inr (0, f))), some (.inl r), some (.inl m), some (.inl p), some (.inl w), some (.inr (.inl (zWl (v - (σ.1 22 (7 * f + r.toNat) (k.toNat)))))), none, some (.inl (zW (k + 1)))]) (st' := []) (σ' := σ) 5 rfl ?_
    exact h2 a1
-- X10_owes
theorem zb_171 {d : Nat} {σ : zS} {Q : Option zV → zS → Prop} {r : Int} {m : Int} {p : Int} {w : Int}
    (h1 : zW (w - 1) ≤ m → zX (d + 0) 171 16 [some (.inr (.inr (10, 0))), some (.inl r), some (.inl m), some (.inl p), some (.inl w), some (.inr (.inl p)), none, some (.inl (zW ((zW (m - w)) + 1)))] [] σ Q)
    (h2 : ¬ zW (w - 1) ≤ m → Q (some (.inr (.inl 0))) σ) :
    zM (d + 0) 171 [.inr (.inr (10, 0)), .inl r, .inl m, .inl p, .inl w] σ Q := by
  refine zX_run (n' := 4) (ls' := [some (.inr (.inr (10, 0))), some (.inl r), some (.inl m), some (.inl p), some (.inl w), none, none, none]) (st' := [.inl (zW (w - 1)), .inl m]) (σ' := σ) 4 rfl ?_
  refine zX_c3 rfl (fun a1 => ?_) (fun a1 => ?_)
  · skip
    refine zX_run (n' := 16) (ls' := [some (.inr (.inr (10, 0))), some (.inl r), some (.inl m), some (.inl p), some (.inl w), some (.inr (.inl p)), none, some (.inl (zW ((zW (m - w)) + 1)))]) (st' := []) (σ' := σ) 9 rfl ?_
    exact h1 a1
  · skip
    refine zX_run (n' := 6) (ls' := [some (.inr (.inr (10, 0))), some (.inl r), some (.inl m), some (.inl p), some (.inl w), none, none, none]) (st' := [.inr (.inl 0)]) (σ' := σ) 1 rfl ?_
    exact zX_retL rfl rfl (h2 a1)
-- X10_owes
theorem zb_171l {d : Nat} {σ : zS} {Q : Option zV → zS → Prop} {r m p w v k : Int}
    (o1 : ¬ m < k → (0 : Int) ≤ zW ((zW (7 * k)) + r) ∧ zW ((zW (7 * k)) + r) < (672 : Int))
    (h1 : m < k → 0 < v → Q (some (.inr (.inl v))) σ)
    (h2 : m < k → v = 0 → Q (some (.inr (.inl v))) σ)
    (h3 : m < k → v < 0 → Q (some (.inr (.inl 0))) σ)
    (h4 : ¬ m < k → zX (d + 0) 171 16 [some (.inr (.inr (10, 0))), some (.inl r), some (.inl m), some (.inl p), some (.inl w), some (.inr (.inl (zWl (v - (σ.1 82 0 ((zW ((zW (7 * k)) + r)).toNat)))))), none, some (.inl (zW (k + 1)))] [] σ Q) :
    zX (d + 0) 171 16 [some (.inr (.inr (10, 0))), some (.inl r), some (.inl m), some (.inl p), some (.inl w), some (.inr (.inl v)), none, some (.inl k)] [] σ Q := by
  refine zX_run (n' := 18) (ls' := [some (.inr (.inr (10, 0))), some (.inl r), some (.inl m), some (.inl p), some (.inl w), some (.inr (.inl v)), none, some (.inl k)]) (st' := [.inl m, .inl k]) (σ' := σ) 2 rfl ?_
  refine zX_c4 rfl (fun a1 => ?_) (fun a1 => ?_)
  · skip
    refine zX_run (n' := 35) (ls' := [some (.inr (.inr (10, 0))), some (.inl r), some (.inl m), some (.inl p), some (.inl w), some (.inr (.inl v)), none, some (.inl k)]) (st' := [.inr (.inl 0), .inr (.inl v)]) (σ' := σ) 2 rfl ?_
    refine zX_lc rfl (fun a2 => ?_) (fun a2 => ?_) (fun a2 => ?_)
    · skip
      refine zX_run (n' := 40) (ls' := [some (.inr (.inr (10, 0))), some (.inl r), some (.inl m), some (.inl p), some (.inl w), some (.inr (.inl v)), none, some (.inl k)]) (st' := [.inr (.inl v)]) (σ' := σ) 2 rfl ?_
      exact zX_retL rfl rfl (h1 a1 a2)
    · skip
      refine zX_run (n' := 40) (ls' := [some (.inr (.inr (10, 0))), some (.inl r), some (.inl m), some (.inl p), some (.inl w), some (.inr (.inl v)), none, some (.inl k)]) (st' := [.inr (.inl v)]) (σ' := σ) 2 rfl ?_
      exact zX_retL rfl rfl (h2 a1 a2)
    · skip
      refine zX_run (n' := 40) (ls' := [some (.inr (.inr (10, 0))), some (.inl r), some (.inl m), some (.inl p), some (.inl w), some (.inr (.inl v)), none, some (.inl k)]) (st' := [.inr (.inl 0)]) (σ' := σ) 3 rfl ?_
      exact zX_retL rfl rfl (h3 a1 a2)
  · skip
    refine zX_run (n' := 27) (ls' := [some (.inr (.inr (10, 0))), some (.inl r), some (.inl m), some (.inl p), some (.inl w), some (.inr (.inl v)), none, some (.inl k)]) (st' := [.inl (zW ((zW (7 * k)) + r)), .inr (.inr (82, 0)), .inr (.inl v)]) (σ' := σ) 8 rfl ?_
    refine zX_ald1 (L := 672) rfl (by decide) rfl (o1 a1) ?_
    refine zX_run (n' := 16) (ls' := [some (.inr (.inr (10, 0))), some (.inl r), some (.inl m), some (.inl p), some (.inl w), some (.inr (.inl (zWl (v - (σ.1 82 0 ((zW ((zW (7 * k)) + r)).toNat)))))), none, some (.inl (zW (k + 1)))]) (st' := []) (σ' := σ) 5 rfl ?_
    exact h4 a1
theorem zW7 {k r : Nat} (hk : k < 96) (hr : r < 7) : zW ((zW (7 * (k : Int))) + (r : Int)) = ((7 * k + r : Nat) : Int) := by unfold zW; omega
def uOw (g : Nat → Int) (p : Int) (a : Nat) : Nat → Int
  | 0 => p
  | n + 1 => zWl (uOw g p a n - g (a + n))
def uOwed (g : Nat → Int) (m p w : Int) : Int := if w - 1 ≤ m then uMaxL (uOw g p (m - w + 1).toNat w.toNat) 0 else 0
theorem uOw_congr {g g' : Nat → Int} {p : Int} {a : Nat} : ∀ {n : Nat}, (∀ k, a ≤ k → k < a + n → g k = g' k) → uOw g p a n = uOw g' p a n
  | 0, _ => rfl
  | n + 1, h => by unfold uOw; rw [h (a + n) (by omega) (by omega), uOw_congr (n := n) (fun k h1 h2 => h k h1 (by omega))]
theorem uOwed_congr {g g' : Nat → Int} {m : Nat} {p w : Int} (hw : 1 ≤ w) (h : ∀ k, k ≤ m → g k = g' k) : uOwed g (m : Int) p w = uOwed g' (m : Int) p w := by
  unfold uOwed
  by_cases c : w - 1 ≤ (m : Int)
  · rw [if_pos c, if_pos c, uOw_congr (fun k h1 h2 => h k (by omega))]
  · rw [if_neg c, if_neg c]
theorem zs_22 {d : Nat} {σ : zS} {Q : Option zV → zS → Prop} {f : Nat} {r m p w : Int} (o1 : 0 ≤ r ∧ r < 7) (o2 : 0 ≤ m ∧ m < 96) (o3 : 1 ≤ w ∧ w ≤ 60)
    (q : Q (some (.inr (.inl (uOwed (fun k => σ.1 22 (7 * f + r.toNat) k) m p w)))) σ) : zM (d + 10) 22 [.inr (.inr (0, f)), .inl r, .inl m, .inl p, .inl w] σ Q := by
  obtain ⟨r, rfl⟩ := Int.eq_ofNat_of_zero_le o1.1
  obtain ⟨m, rfl⟩ := Int.eq_ofNat_of_zero_le o2.1
  obtain ⟨w, rfl⟩ := Int.eq_ofNat_of_zero_le (show 0 ≤ w by omega)
  have r7 : r < 7 := by omega
  have m96 : m < 96 := by omega
  have e1 : zW ((w : Int) - 1) = (w : Int) - 1 := by unfold zW; omega
  by_cases c : (w : Int) - 1 ≤ (m : Int)
  · obtain ⟨a, ha⟩ : ∃ a : Nat, m + 1 = a + w := ⟨m + 1 - w, by omega⟩
    have am : a ≤ m + 1 := by omega
    have a1 : ((m : Int) - (w : Int) + 1).toNat = a := by omega
    have a2 : m + 1 - a = w := by omega
    unfold uOwed at q
    rw [if_pos c, a1] at q
    have q : Q (some (.inr (.inl (uMaxL (uOw (fun k => σ.1 22 (7 * f + r) k) p a w) 0)))) σ := q
    rw [← a2] at q
    refine zb_22 (fun _ => ?_) (fun x => absurd (by rw [e1]; exact c) x)
    rw [show zW ((zW ((m : Int) - (w : Int))) + 1) = (a : Int) by unfold zW; omega]
    have L := zLoop (P := fun k => zX (d + 10) 22 16 [some (.inr (.inr (0, f))), some (.inl (r : Int)), some (.inl (m : Int)), some (.inl p), some (.inl (w : Int)), some (.inr (.inl (uOw (fun k => σ.1 22 (7 * f + r) k) p a (k - a)))), none, some (.inl (k : Int))] [] σ Q) (k := a) (N := m + 1) am ?_ (fun k hk1 hk ih => ?_)
    · rw [Nat.sub_self] at L; exact L
    · have lt : (m : Int) < ((m + 1 : Nat) : Int) := by omega
      exact zb_22l (fun x => absurd lt x) (fun x => absurd lt x) (fun _ => q) (fun x => absurd lt x)
    · have nl : ¬ (m : Int) < (k : Int) := by omega
      have k96 : k < 96 := by omega
      rw [show k + 1 - a = (k - a) + 1 by omega, uOw, show a + (k - a) = k by omega, ← zWs (m := k) (by omega)] at ih
      exact zb_22l (fun _ => o1) (fun _ => ⟨Int.natCast_nonneg _, by omega⟩) (fun x => absurd x nl) (fun _ => ih)
  · unfold uOwed at q
    rw [if_neg c] at q
    exact zb_22 (fun x => absurd (by rw [e1] at x; exact x) c) (fun _ => q)
theorem zs_171 {d : Nat} {σ : zS} {Q : Option zV → zS → Prop} {r m p w : Int} (o1 : 0 ≤ r ∧ r < 7) (o2 : 0 ≤ m ∧ m < 96) (o3 : 1 ≤ w ∧ w ≤ 60)
    (q : Q (some (.inr (.inl (uOwed (fun k => σ.1 82 0 (7 * k + r.toNat)) m p w)))) σ) : zM (d + 0) 171 [.inr (.inr (10, 0)), .inl r, .inl m, .inl p, .inl w] σ Q := by
  obtain ⟨r, rfl⟩ := Int.eq_ofNat_of_zero_le o1.1
  obtain ⟨m, rfl⟩ := Int.eq_ofNat_of_zero_le o2.1
  obtain ⟨w, rfl⟩ := Int.eq_ofNat_of_zero_le (show 0 ≤ w by omega)
  have r7 : r < 7 := by omega
  have m96 : m < 96 := by omega
  have e1 : zW ((w : Int) - 1) = (w : Int) - 1 := by unfold zW; omega
  by_cases c : (w : Int) - 1 ≤ (m : Int)
  · obtain ⟨a, ha⟩ : ∃ a : Nat, m + 1 = a + w := ⟨m + 1 - w, by omega⟩
    have am : a ≤ m + 1 := by omega
    have a1 : ((m : Int) - (w : Int) + 1).toNat = a := by omega
    have a2 : m + 1 - a = w := by omega
    unfold uOwed at q
    rw [if_pos c, a1] at q
    have q : Q (some (.inr (.inl (uMaxL (uOw (fun k => σ.1 82 0 (7 * k + r)) p a w) 0)))) σ := q
    rw [← a2] at q
    refine zb_171 (fun _ => ?_) (fun x => absurd (by rw [e1]; exact c) x)
    rw [show zW ((zW ((m : Int) - (w : Int))) + 1) = (a : Int) by unfold zW; omega]
    have L := zLoop (P := fun k => zX (d + 0) 171 16 [some (.inr (.inr (10, 0))), some (.inl (r : Int)), some (.inl (m : Int)), some (.inl p), some (.inl (w : Int)), some (.inr (.inl (uOw (fun k => σ.1 82 0 (7 * k + r)) p a (k - a)))), none, some (.inl (k : Int))] [] σ Q) (k := a) (N := m + 1) am ?_ (fun k hk1 hk ih => ?_)
    · rw [Nat.sub_self] at L; exact L
    · have lt : (m : Int) < ((m + 1 : Nat) : Int) := by omega
      refine zb_171l (fun x => absurd lt x) (fun _ y => ?_) (fun _ y => ?_) (fun _ y => ?_) (fun x => absurd lt x)
      · unfold uMaxL at q; rw [if_pos y] at q; exact q
      · unfold uMaxL at q; rw [if_neg (by rw [y]; exact Int.lt_irrefl 0)] at q; rw [y]; exact q
      · unfold uMaxL at q; rw [if_neg (Int.not_lt.mpr (Int.le_of_lt y))] at q; exact q
    · have nl : ¬ (m : Int) < (k : Int) := by omega
      have k96 : k < 96 := by omega
      rw [show k + 1 - a = (k - a) + 1 by omega, uOw, show a + (k - a) = k by omega, ← zWs (m := k) (by omega)] at ih
      have z : zW ((zW (7 * (k : Int))) + (r : Int)) = ((7 * k + r : Nat) : Int) := zW7 k96 r7
      have ix : (0 : Int) ≤ ((7 * k + r : Nat) : Int) ∧ ((7 * k + r : Nat) : Int) < 672 := by omega
      refine zb_171l (fun _ => by rw [z]; exact ix) (fun x => absurd x nl) (fun x => absurd x nl) (fun x => absurd x nl) (fun _ => ?_)
      rw [z, Int.toNat_natCast]; exact ih
  · unfold uOwed at q
    rw [if_neg c] at q
    exact zb_171 (fun x => absurd (by rw [e1] at x; exact x) c) (fun _ => q)
-- X9_owed
theorem zb_90 {d : Nat} {σ : zS} {Q : Option zV → zS → Prop} {r : Int} {m : Int} {p : Int} {w : Int}
    (o1 : 0 ≤ r ∧ r ≤ 6 → 0 ≤ m ∧ m ≤ 95 → (0 ≤ p ∧ p ≤ 9999999) ∧ 1 ≤ w ∧ w ≤ 60 → (0 : Int) ≤ (zW (m + 1)) ∧ (zW (m + 1)) ≤ (96 : Int))
    (o2 : 0 ≤ r ∧ r ≤ 6 → 0 ≤ m ∧ m ≤ 95 → (0 ≤ p ∧ p ≤ 9999999) ∧ 1 ≤ w ∧ w ≤ 60 → yRel σ)
    (o3 : 0 ≤ r ∧ r ≤ 6 → 0 ≤ m ∧ m ≤ 95 → (0 ≤ p ∧ p ≤ 9999999) ∧ 1 ≤ w ∧ w ≤ 60 → ∀ G1 : Nat → Nat → Nat → Int, cWk (zG σ G1) 0 (mD σ) (zW (m + 1)) → yRel (zG σ G1) → cOth σ G1 0 → 0 ≤ r ∧ r < 7)
    (o4 : 0 ≤ r ∧ r ≤ 6 → 0 ≤ m ∧ m ≤ 95 → (0 ≤ p ∧ p ≤ 9999999) ∧ 1 ≤ w ∧ w ≤ 60 → ∀ G1 : Nat → Nat → Nat → Int, cWk (zG σ G1) 0 (mD σ) (zW (m + 1)) → yRel (zG σ G1) → cOth σ G1 0 → 0 ≤ m ∧ m < 96)
    (o5 : 0 ≤ r ∧ r ≤ 6 → 0 ≤ m ∧ m ≤ 95 → (0 ≤ p ∧ p ≤ 9999999) ∧ 1 ≤ w ∧ w ≤ 60 → ∀ G1 : Nat → Nat → Nat → Int, cWk (zG σ G1) 0 (mD σ) (zW (m + 1)) → yRel (zG σ G1) → cOth σ G1 0 → 1 ≤ w ∧ w ≤ 60)
    (h1 : 0 ≤ r ∧ r ≤ 6 → 0 ≤ m ∧ m ≤ 95 → (0 ≤ p ∧ p ≤ 9999999) ∧ 1 ≤ w ∧ w ≤ 60 → ∀ G1 : Nat → Nat → Nat → Int, cWk (zG σ G1) 0 (mD σ) (zW (m + 1)) → yRel (zG σ G1) → cOth σ G1 0 → Q (some (.inr (.inl (uOwed (fun k => (zG σ G1).1 22 (7 * 0 + r.toNat) k) m p w)))) (zG σ G1))
    (h2 : 0 ≤ r ∧ r ≤ 6 → 0 ≤ m ∧ m ≤ 95 → ¬ ((0 ≤ p ∧ p ≤ 9999999) ∧ 1 ≤ w ∧ w ≤ 60) → Q (some (.inr (.inl (-4611686018427387904)))) σ)
    (h3 : 0 ≤ r ∧ r ≤ 6 → ¬ (0 ≤ m ∧ m ≤ 95) → Q (some (.inr (.inl (-4611686018427387904)))) σ)
    (h4 : ¬ (0 ≤ r ∧ r ≤ 6) → Q (some (.inr (.inl (-4611686018427387904)))) σ) :
    zM (d + 15) 90 [.inr (.inr (9, 0)), .inl r, .inl m, .inl p, .inl w] σ Q := by
  refine zX_run (n' := 1) (ls' := [some (.inr (.inr (9, 0))), some (.inl r), some (.inl m), some (.inl p), some (.inl w)]) (st' := [.inl r]) (σ' := σ) 1 rfl ?_
  refine zX_call rfl rfl ?_
  refine zs_105 (fun a1 => ?_) (fun a2 => ?_)
  · skip
    refine zX_run (n' := 4) (ls' := [some (.inr (.inr (9, 0))), some (.inl r), some (.inl m), some (.inl p), some (.inl w)]) (st' := [.inl m]) (σ' := σ) 2 rfl ?_
    refine zX_call rfl rfl ?_
    refine zs_106 (fun a3 => ?_) (fun a4 => ?_)
    · skip
      refine zX_run (n' := 8) (ls' := [some (.inr (.inr (9, 0))), some (.inl r), some (.inl m), some (.inl p), some (.inl w)]) (st' := [.inl w, .inl p]) (σ' := σ) 3 rfl ?_
      refine zX_call rfl rfl ?_
      refine zs_109 (fun a5 => ?_) (fun a6 => ?_)
      · skip
        refine zX_run (n' := 17) (ls' := [some (.inr (.inr (9, 0))), some (.inl r), some (.inl m), some (.inl p), some (.inl w)]) (st' := [.inl (zW (m + 1)), .inr (.inr (0, 0))]) (σ' := σ) 6 rfl ?_
        refine zX_call rfl rfl ?_
        refine ys_2 (o1 a1 a3 a5) (o2 a1 a3 a5) (fun G1 a7 a8 a9 => ?_)
        · skip
          refine zX_run (n' := 24) (ls' := [some (.inr (.inr (9, 0))), some (.inl r), some (.inl m), some (.inl p), some (.inl w)]) (st' := [.inl w, .inl p, .inl m, .inl r, .inr (.inr (0, 0))]) (σ' := (zG σ G1)) 6 rfl ?_
          refine zX_call rfl rfl ?_
          refine zs_22 (o3 a1 a3 a5 G1 a7 a8 a9) (o4 a1 a3 a5 G1 a7 a8 a9) (o5 a1 a3 a5 G1 a7 a8 a9) ?_
          · skip
            exact zX_retL rfl rfl (h1 a1 a3 a5 G1 a7 a8 a9)
      · skip
        refine zX_run (n' := 11) (ls' := [some (.inr (.inr (9, 0))), some (.inl r), some (.inl m), some (.inl p), some (.inl w)]) (st' := [.inr (.inl (-4611686018427387904))]) (σ' := σ) 2 rfl ?_
        exact zX_retL rfl rfl (h2 a1 a3 a6)
    · skip
      refine zX_run (n' := 11) (ls' := [some (.inr (.inr (9, 0))), some (.inl r), some (.inl m), some (.inl p), some (.inl w)]) (st' := [.inr (.inl (-4611686018427387904))]) (σ' := σ) 2 rfl ?_
      exact zX_retL rfl rfl (h3 a1 a4)
  · skip
    refine zX_run (n' := 11) (ls' := [some (.inr (.inr (9, 0))), some (.inl r), some (.inl m), some (.inl p), some (.inl w)]) (st' := [.inr (.inl (-4611686018427387904))]) (σ' := σ) 2 rfl ?_
    exact zX_retL rfl rfl (h4 a2)
-- X10_owed
theorem zb_172 {d : Nat} {σ : zS} {Q : Option zV → zS → Prop} {r : Int} {m : Int} {p : Int} {w : Int}
    (o1 : (0 ≤ r ∧ r < 7) ∧ (0 ≤ p ∧ p ≤ 9999999) ∧ 1 ≤ w ∧ w ≤ 60 → 0 ≤ m ∧ m < 96 → yRel σ)
    (o2 : (0 ≤ r ∧ r < 7) ∧ (0 ≤ p ∧ p ≤ 9999999) ∧ 1 ≤ w ∧ w ≤ 60 → 0 ≤ m ∧ m < 96 → ∀ G1 : zS, mRun σ G1 96 0 → yRel (yR σ G1) → 0 ≤ r ∧ r < 7)
    (o3 : (0 ≤ r ∧ r < 7) ∧ (0 ≤ p ∧ p ≤ 9999999) ∧ 1 ≤ w ∧ w ≤ 60 → 0 ≤ m ∧ m < 96 → ∀ G1 : zS, mRun σ G1 96 0 → yRel (yR σ G1) → 0 ≤ m ∧ m < 96)
    (o4 : (0 ≤ r ∧ r < 7) ∧ (0 ≤ p ∧ p ≤ 9999999) ∧ 1 ≤ w ∧ w ≤ 60 → 0 ≤ m ∧ m < 96 → ∀ G1 : zS, mRun σ G1 96 0 → yRel (yR σ G1) → 1 ≤ w ∧ w ≤ 60)
    (h1 : (0 ≤ r ∧ r < 7) ∧ (0 ≤ p ∧ p ≤ 9999999) ∧ 1 ≤ w ∧ w ≤ 60 → 0 ≤ m ∧ m < 96 → ∀ G1 : zS, mRun σ G1 96 0 → yRel (yR σ G1) → Q (some (.inr (.inl (uOwed (fun k => (yR σ G1).1 82 0 (7 * k + r.toNat)) m p w)))) (yR σ G1))
    (h2 : (0 ≤ r ∧ r < 7) ∧ (0 ≤ p ∧ p ≤ 9999999) ∧ 1 ≤ w ∧ w ≤ 60 → ¬ (0 ≤ m ∧ m < 96) → Q (some (.inr (.inl (-4611686018427387904)))) σ)
    (h3 : ¬ ((0 ≤ r ∧ r < 7) ∧ (0 ≤ p ∧ p ≤ 9999999) ∧ 1 ≤ w ∧ w ≤ 60) → Q (some (.inr (.inl (-4611686018427387904)))) σ) :
    zM (d + 7) 172 [.inr (.inr (10, 0)), .inl r, .inl m, .inl p, .inl w] σ Q := by
  refine zX_run (n' := 3) (ls' := [some (.inr (.inr (10, 0))), some (.inl r), some (.inl m), some (.inl p), some (.inl w)]) (st' := [.inl w, .inl p, .inl r]) (σ' := σ) 3 rfl ?_
  refine zX_call rfl rfl ?_
  refine zs_170 (fun a1 => ?_) (fun a2 => ?_)
  · skip
    refine zX_run (n' := 6) (ls' := [some (.inr (.inr (10, 0))), some (.inl r), some (.inl m), some (.inl p), some (.inl w)]) (st' := [.inl m]) (σ' := σ) 2 rfl ?_
    refine zX_call rfl rfl ?_
    refine zs_120 (fun a3 => ?_) (fun a4 => ?_)
    · skip
      refine zX_run (n' := 11) (ls' := [some (.inr (.inr (10, 0))), some (.inl r), some (.inl m), some (.inl p), some (.inl w)]) (st' := [.inr (.inr (10, 0))]) (σ' := σ) 2 rfl ?_
      refine zX_call rfl rfl ?_
      refine ys_158 (o1 a1 a3) (fun G1 a5 a6 => ?_)
      · skip
        refine zX_run (n' := 17) (ls' := [some (.inr (.inr (10, 0))), some (.inl r), some (.inl m), some (.inl p), some (.inl w)]) (st' := [.inl w, .inl p, .inl m, .inl r, .inr (.inr (10, 0))]) (σ' := (yR σ G1)) 5 rfl ?_
        refine zX_call rfl rfl ?_
        refine zs_171 (o2 a1 a3 G1 a5 a6) (o3 a1 a3 G1 a5 a6) (o4 a1 a3 G1 a5 a6) ?_
        · skip
          exact zX_retL rfl rfl (h1 a1 a3 G1 a5 a6)
    · skip
      refine zX_run (n' := 9) (ls' := [some (.inr (.inr (10, 0))), some (.inl r), some (.inl m), some (.inl p), some (.inl w)]) (st' := [.inr (.inl (-4611686018427387904))]) (σ' := σ) 2 rfl ?_
      exact zX_retL rfl rfl (h2 a1 a4)
  · skip
    refine zX_run (n' := 9) (ls' := [some (.inr (.inr (10, 0))), some (.inl r), some (.inl m), some (.inl p), some (.inl w)]) (st' := [.inr (.inl (-4611686018427387904))]) (σ' := σ) 2 rfl ?_
    exact zX_retL rfl rfl (h3 a2)
-- X9_breaks
theorem zb_91 {d : Nat} {σ : zS} {Q : Option zV → zS → Prop} {r : Int} {p : Int} {w : Int}
    (o1 : 0 ≤ r ∧ r ≤ 6 → (0 ≤ p ∧ p ≤ 9999999) ∧ 1 ≤ w ∧ w ≤ 60 → (0 : Int) ≤ 96 ∧ 96 ≤ (96 : Int))
    (o2 : 0 ≤ r ∧ r ≤ 6 → (0 ≤ p ∧ p ≤ 9999999) ∧ 1 ≤ w ∧ w ≤ 60 → yRel σ)
    (h1 : 0 ≤ r ∧ r ≤ 6 → (0 ≤ p ∧ p ≤ 9999999) ∧ 1 ≤ w ∧ w ≤ 60 → ∀ G1 : Nat → Nat → Nat → Int, cWk (zG σ G1) 0 (mD σ) 96 → yRel (zG σ G1) → cOth σ G1 0 → zX (d + 15) 91 15 [some (.inr (.inr (9, 0))), some (.inl r), some (.inl p), some (.inl w), some (.inl 0)] [] (zG σ G1) Q)
    (h2 : 0 ≤ r ∧ r ≤ 6 → ¬ ((0 ≤ p ∧ p ≤ 9999999) ∧ 1 ≤ w ∧ w ≤ 60) → Q (some (.inl (-2))) σ)
    (h3 : ¬ (0 ≤ r ∧ r ≤ 6) → Q (some (.inl (-2))) σ) :
    zM (d + 15) 91 [.inr (.inr (9, 0)), .inl r, .inl p, .inl w] σ Q := by
  refine zX_run (n' := 1) (ls' := [some (.inr (.inr (9, 0))), some (.inl r), some (.inl p), some (.inl w), none]) (st' := [.inl r]) (σ' := σ) 1 rfl ?_
  refine zX_call rfl rfl ?_
  refine zs_105 (fun a1 => ?_) (fun a2 => ?_)
  · skip
    refine zX_run (n' := 5) (ls' := [some (.inr (.inr (9, 0))), some (.inl r), some (.inl p), some (.inl w), none]) (st' := [.inl w, .inl p]) (σ' := σ) 3 rfl ?_
    refine zX_call rfl rfl ?_
    refine zs_109 (fun a3 => ?_) (fun a4 => ?_)
    · skip
      refine zX_run (n' := 12) (ls' := [some (.inr (.inr (9, 0))), some (.inl r), some (.inl p), some (.inl w), none]) (st' := [.inl 96, .inr (.inr (0, 0))]) (σ' := σ) 4 rfl ?_
      refine zX_call rfl rfl ?_
      refine ys_2 (o1 a1 a3) (o2 a1 a3) (fun G1 a5 a6 a7 => ?_)
      · skip
        refine zX_run (n' := 15) (ls' := [some (.inr (.inr (9, 0))), some (.inl r), some (.inl p), some (.inl w), some (.inl 0)]) (st' := []) (σ' := (zG σ G1)) 2 rfl ?_
        exact h1 a1 a3 G1 a5 a6 a7
    · skip
      refine zX_run (n' := 8) (ls' := [some (.inr (.inr (9, 0))), some (.inl r), some (.inl p), some (.inl w), none]) (st' := [.inl (-2)]) (σ' := σ) 2 rfl ?_
      exact zX_ret rfl rfl (h2 a1 a4)
  · skip
    refine zX_run (n' := 8) (ls' := [some (.inr (.inr (9, 0))), some (.inl r), some (.inl p), some (.inl w), none]) (st' := [.inl (-2)]) (σ' := σ) 2 rfl ?_
    exact zX_ret rfl rfl (h3 a2)
-- X9_breaks
theorem zb_91l {d : Nat} {σ : zS} {Q : Option zV → zS → Prop} {r p w k : Int}
    (o1 : ¬ 96 ≤ k → 0 ≤ r ∧ r < 7)
    (o2 : ¬ 96 ≤ k → 0 ≤ k ∧ k < 96)
    (o3 : ¬ 96 ≤ k → 1 ≤ w ∧ w ≤ 60)
    (h1 : 96 ≤ k → Q (some (.inl (-1))) σ)
    (h2 : ¬ 96 ≤ k → 0 < uOwed (fun k => σ.1 22 (7 * 0 + r.toNat) k) k p w → Q (some (.inl k)) σ)
    (h3 : ¬ 96 ≤ k → uOwed (fun k => σ.1 22 (7 * 0 + r.toNat) k) k p w = 0 → zX (d + 15) 91 15 [some (.inr (.inr (9, 0))), some (.inl r), some (.inl p), some (.inl w), some (.inl (zW (k + 1)))] [] σ Q)
    (h4 : ¬ 96 ≤ k → uOwed (fun k => σ.1 22 (7 * 0 + r.toNat) k) k p w < 0 → zX (d + 15) 91 15 [some (.inr (.inr (9, 0))), some (.inl r), some (.inl p), some (.inl w), some (.inl (zW (k + 1)))] [] σ Q) :
    zX (d + 15) 91 15 [some (.inr (.inr (9, 0))), some (.inl r), some (.inl p), some (.inl w), some (.inl k)] [] σ Q := by
  refine zX_run (n' := 17) (ls' := [some (.inr (.inr (9, 0))), some (.inl r), some (.inl p), some (.inl w), some (.inl k)]) (st' := [.inl 96, .inl k]) (σ' := σ) 2 rfl ?_
  refine zX_c3 rfl (fun a1 => ?_) (fun a1 => ?_)
  · skip
    refine zX_run (n' := 33) (ls' := [some (.inr (.inr (9, 0))), some (.inl r), some (.inl p), some (.inl w), some (.inl k)]) (st' := [.inl (-1)]) (σ' := σ) 1 rfl ?_
    exact zX_ret rfl rfl (h1 a1)
  · skip
    refine zX_run (n' := 24) (ls' := [some (.inr (.inr (9, 0))), some (.inl r), some (.inl p), some (.inl w), some (.inl k)]) (st' := [.inl w, .inl p, .inl k, .inl r, .inr (.inr (0, 0))]) (σ' := σ) 6 rfl ?_
    refine zX_call rfl rfl ?_
    refine zs_22 (o1 a1) (o2 a1) (o3 a1) ?_
    · skip
      refine zX_run (n' := 26) (ls' := [some (.inr (.inr (9, 0))), some (.inl r), some (.inl p), some (.inl w), some (.inl k)]) (st' := [.inr (.inl 0), .inr (.inl (uOwed (fun k => σ.1 22 (7 * 0 + r.toNat) k) k p w))]) (σ' := σ) 1 rfl ?_
      refine zX_lc rfl (fun a2 => ?_) (fun a2 => ?_) (fun a2 => ?_)
      · skip
        refine zX_run (n' := 29) (ls' := [some (.inr (.inr (9, 0))), some (.inl r), some (.inl p), some (.inl w), some (.inl k)]) (st' := [.inl k]) (σ' := σ) 2 rfl ?_
        exact zX_ret rfl rfl (h2 a1 a2)
      · skip
        refine zX_run (n' := 15) (ls' := [some (.inr (.inr (9, 0))), some (.inl r), some (.inl p), some (.inl w), some (.inl (zW (k + 1)))]) (st' := []) (σ' := σ) 3 rfl ?_
        exact h3 a1 a2
      · skip
        refine zX_run (n' := 15) (ls' := [some (.inr (.inr (9, 0))), some (.inl r), some (.inl p), some (.inl w), some (.inl (zW (k + 1)))]) (st' := []) (σ' := σ) 3 rfl ?_
        exact h4 a1 a2
-- X10_breaks
theorem zb_173 {d : Nat} {σ : zS} {Q : Option zV → zS → Prop} {r : Int} {p : Int} {w : Int}
    (o1 : (0 ≤ r ∧ r < 7) ∧ (0 ≤ p ∧ p ≤ 9999999) ∧ 1 ≤ w ∧ w ≤ 60 → yRel σ)
    (h1 : (0 ≤ r ∧ r < 7) ∧ (0 ≤ p ∧ p ≤ 9999999) ∧ 1 ≤ w ∧ w ≤ 60 → ∀ G1 : zS, mRun σ G1 96 0 → yRel (yR σ G1) → zX (d + 7) 173 11 [some (.inr (.inr (10, 0))), some (.inl r), some (.inl p), some (.inl w), some (.inl 0)] [] (yR σ G1) Q)
    (h2 : ¬ ((0 ≤ r ∧ r < 7) ∧ (0 ≤ p ∧ p ≤ 9999999) ∧ 1 ≤ w ∧ w ≤ 60) → Q (some (.inl (-2))) σ) :
    zM (d + 7) 173 [.inr (.inr (10, 0)), .inl r, .inl p, .inl w] σ Q := by
  refine zX_run (n' := 3) (ls' := [some (.inr (.inr (10, 0))), some (.inl r), some (.inl p), some (.inl w), none]) (st' := [.inl w, .inl p, .inl r]) (σ' := σ) 3 rfl ?_
  refine zX_call rfl rfl ?_
  refine zs_170 (fun a1 => ?_) (fun a2 => ?_)
  · skip
    refine zX_run (n' := 8) (ls' := [some (.inr (.inr (10, 0))), some (.inl r), some (.inl p), some (.inl w), none]) (st' := [.inr (.inr (10, 0))]) (σ' := σ) 2 rfl ?_
    refine zX_call rfl rfl ?_
    refine ys_158 (o1 a1) (fun G1 a3 a4 => ?_)
    · skip
      refine zX_run (n' := 11) (ls' := [some (.inr (.inr (10, 0))), some (.inl r), some (.inl p), some (.inl w), some (.inl 0)]) (st' := []) (σ' := (yR σ G1)) 2 rfl ?_
      exact h1 a1 G1 a3 a4
  · skip
    refine zX_run (n' := 6) (ls' := [some (.inr (.inr (10, 0))), some (.inl r), some (.inl p), some (.inl w), none]) (st' := [.inl (-2)]) (σ' := σ) 2 rfl ?_
    exact zX_ret rfl rfl (h2 a2)
-- X10_breaks
theorem zb_173l {d : Nat} {σ : zS} {Q : Option zV → zS → Prop} {r p w k : Int}
    (o1 : ¬ 96 ≤ k → 0 ≤ r ∧ r < 7)
    (o2 : ¬ 96 ≤ k → 0 ≤ k ∧ k < 96)
    (o3 : ¬ 96 ≤ k → 1 ≤ w ∧ w ≤ 60)
    (h1 : 96 ≤ k → Q (some (.inl (-1))) σ)
    (h2 : ¬ 96 ≤ k → 0 < uOwed (fun k => σ.1 82 0 (7 * k + r.toNat)) k p w → Q (some (.inl k)) σ)
    (h3 : ¬ 96 ≤ k → uOwed (fun k => σ.1 82 0 (7 * k + r.toNat)) k p w = 0 → zX (d + 7) 173 11 [some (.inr (.inr (10, 0))), some (.inl r), some (.inl p), some (.inl w), some (.inl (zW (k + 1)))] [] σ Q)
    (h4 : ¬ 96 ≤ k → uOwed (fun k => σ.1 82 0 (7 * k + r.toNat)) k p w < 0 → zX (d + 7) 173 11 [some (.inr (.inr (10, 0))), some (.inl r), some (.inl p), some (.inl w), some (.inl (zW (k + 1)))] [] σ Q) :
    zX (d + 7) 173 11 [some (.inr (.inr (10, 0))), some (.inl r), some (.inl p), some (.inl w), some (.inl k)] [] σ Q := by
  refine zX_run (n' := 13) (ls' := [some (.inr (.inr (10, 0))), some (.inl r), some (.inl p), some (.inl w), some (.inl k)]) (st' := [.inl 96, .inl k]) (σ' := σ) 2 rfl ?_
  refine zX_c3 rfl (fun a1 => ?_) (fun a1 => ?_)
  · skip
    refine zX_run (n' := 28) (ls' := [some (.inr (.inr (10, 0))), some (.inl r), some (.inl p), some (.inl w), some (.inl k)]) (st' := [.inl (-1)]) (σ' := σ) 1 rfl ?_
    exact zX_ret rfl rfl (h1 a1)
  · skip
    refine zX_run (n' := 19) (ls' := [some (.inr (.inr (10, 0))), some (.inl r), some (.inl p), some (.inl w), some (.inl k)]) (st' := [.inl w, .inl p, .inl k, .inl r, .inr (.inr (10, 0))]) (σ' := σ) 5 rfl ?_
    refine zX_call rfl rfl ?_
    refine zs_171 (o1 a1) (o2 a1) (o3 a1) ?_
    · skip
      refine zX_run (n' := 21) (ls' := [some (.inr (.inr (10, 0))), some (.inl r), some (.inl p), some (.inl w), some (.inl k)]) (st' := [.inr (.inl 0), .inr (.inl (uOwed (fun k => σ.1 82 0 (7 * k + r.toNat)) k p w))]) (σ' := σ) 1 rfl ?_
      refine zX_lc rfl (fun a2 => ?_) (fun a2 => ?_) (fun a2 => ?_)
      · skip
        refine zX_run (n' := 24) (ls' := [some (.inr (.inr (10, 0))), some (.inl r), some (.inl p), some (.inl w), some (.inl k)]) (st' := [.inl k]) (σ' := σ) 2 rfl ?_
        exact zX_ret rfl rfl (h2 a1 a2)
      · skip
        refine zX_run (n' := 11) (ls' := [some (.inr (.inr (10, 0))), some (.inl r), some (.inl p), some (.inl w), some (.inl (zW (k + 1)))]) (st' := []) (σ' := σ) 3 rfl ?_
        exact h3 a1 a2
      · skip
        refine zX_run (n' := 11) (ls' := [some (.inr (.inr (10, 0))), some (.inl r), some (.inl p), some (.inl w), some (.inl (zW (k + 1)))]) (st' := []) (σ' := σ) 3 rfl ?_
        exact h4 a1 a2
def vOn (D : uT) (r k : Nat) : Int := (uAm D (uV D k) k (r + 1)).1
def vOwed (D : uT) (r m p w : Int) : Int := if (0 ≤ r ∧ r ≤ 6) ∧ (0 ≤ m ∧ m ≤ 95) ∧ (0 ≤ p ∧ p ≤ 9999999) ∧ 1 ≤ w ∧ w ≤ 60 then uOwed (vOn D r.toNat) m p w else -4611686018427387904
def uBrk (f : Nat → Int) (k : Nat) : Nat → Int
  | 0 => -1
  | n + 1 => if 0 < f k then (k : Int) else uBrk f (k + 1) n
def vBrk (D : uT) (r p w : Int) : Int := if (0 ≤ r ∧ r ≤ 6) ∧ (0 ≤ p ∧ p ≤ 9999999) ∧ 1 ≤ w ∧ w ≤ 60 then uBrk (fun k => uOwed (vOn D r.toNat) (k : Int) p w) 0 96 else -2
theorem zs_91l {d : Nat} {σ : zS} {Q : Option zV → zS → Prop} {r p w : Int} (o1 : 0 ≤ r ∧ r < 7) (o3 : 1 ≤ w ∧ w ≤ 60) : ∀ (n k : Nat), k + n = 96 → Q (some (.inl (uBrk (fun k => uOwed (fun j => σ.1 22 (7 * 0 + r.toNat) j) (k : Int) p w) k n))) σ →
    zX (d + 15) 91 15 [some (.inr (.inr (9, 0))), some (.inl r), some (.inl p), some (.inl w), some (.inl (k : Int))] [] σ Q := by
  intro n
  induction n with
  | zero =>
    intro k e q
    have ge : (96 : Int) ≤ (k : Int) := by omega
    exact zb_91l (fun x => absurd ge x) (fun x => absurd ge x) (fun x => absurd ge x) (fun _ => q) (fun x => absurd ge x) (fun x => absurd ge x) (fun x => absurd ge x)
  | succ n ih =>
    intro k e q
    have nl : ¬ (96 : Int) ≤ (k : Int) := by omega
    have ik : (0 : Int) ≤ (k : Int) ∧ (k : Int) < 96 := by omega
    have e2 : k + 1 + n = 96 := by omega
    have kz : k < 1000 := by omega
    unfold uBrk at q
    have go : ¬ 0 < uOwed (fun j => σ.1 22 (7 * 0 + r.toNat) j) (k : Int) p w → zX (d + 15) 91 15 [some (.inr (.inr (9, 0))), some (.inl r), some (.inl p), some (.inl w), some (.inl (zW ((k : Int) + 1)))] [] σ Q := fun c => by
      rw [if_neg c] at q
      rw [zWs (by omega)]
      exact ih _ e2 q
    exact zb_91l (fun _ => o1) (fun _ => ik) (fun _ => o3) (fun x => absurd x nl) (fun _ c => by rw [if_pos c] at q; exact q) (fun _ c => go (by rw [c]; exact Int.lt_irrefl 0)) (fun _ c => go (Int.not_lt.mpr (Int.le_of_lt c)))
theorem zs_173l {d : Nat} {σ : zS} {Q : Option zV → zS → Prop} {r p w : Int} (o1 : 0 ≤ r ∧ r < 7) (o3 : 1 ≤ w ∧ w ≤ 60) : ∀ (n k : Nat), k + n = 96 → Q (some (.inl (uBrk (fun k => uOwed (fun j => σ.1 82 0 (7 * j + r.toNat)) (k : Int) p w) k n))) σ →
    zX (d + 7) 173 11 [some (.inr (.inr (10, 0))), some (.inl r), some (.inl p), some (.inl w), some (.inl (k : Int))] [] σ Q := by
  intro n
  induction n with
  | zero =>
    intro k e q
    have ge : (96 : Int) ≤ (k : Int) := by omega
    exact zb_173l (fun x => absurd ge x) (fun x => absurd ge x) (fun x => absurd ge x) (fun _ => q) (fun x => absurd ge x) (fun x => absurd ge x) (fun x => absurd ge x)
  | succ n ih =>
    intro k e q
    have nl : ¬ (96 : Int) ≤ (k : Int) := by omega
    have ik : (0 : Int) ≤ (k : Int) ∧ (k : Int) < 96 := by omega
    have e2 : k + 1 + n = 96 := by omega
    have kz : k < 1000 := by omega
    unfold uBrk at q
    have go : ¬ 0 < uOwed (fun j => σ.1 82 0 (7 * j + r.toNat)) (k : Int) p w → zX (d + 7) 173 11 [some (.inr (.inr (10, 0))), some (.inl r), some (.inl p), some (.inl w), some (.inl (zW ((k : Int) + 1)))] [] σ Q := fun c => by
      rw [if_neg c] at q
      rw [zWs (by omega)]
      exact ih _ e2 q
    exact zb_173l (fun _ => o1) (fun _ => ik) (fun _ => o3) (fun x => absurd x nl) (fun _ c => by rw [if_pos c] at q; exact q) (fun _ c => go (by rw [c]; exact Int.lt_irrefl 0)) (fun _ c => go (Int.not_lt.mpr (Int.le_of_lt c)))
theorem uBrk_congr {f g : Nat → Int} : ∀ {n k : Nat}, (∀ j, k ≤ j → j < k + n → f j = g j) → uBrk f k n = uBrk g k n
  | 0, _, _ => rfl
  | n + 1, k, h => by unfold uBrk; rw [h k (by omega) (by omega), uBrk_congr (n := n) (fun j h1 h2 => h j (by omega) (by omega))]
theorem yc_90 {d : Nat} (r m p w : Int) : yC (d + 60) 90 [.inl r, .inl m, .inl p, .inl w] (fun s => .inr (.inl (vOwed (mD s) r m p w))) := fun σ Q R q => by
  have q : ∀ s, yE σ s → yRel s → Q (some (.inr (.inl (vOwed (mD σ) r m p w)))) s := q
  by_cases P : (0 ≤ r ∧ r ≤ 6) ∧ (0 ≤ m ∧ m ≤ 95) ∧ (0 ≤ p ∧ p ≤ 9999999) ∧ 1 ≤ w ∧ w ≤ 60
  case neg =>
    rw [show vOwed (mD σ) r m p w = -4611686018427387904 from if_neg P] at q
    have qn := q
    have q := q _ yE_r R
    have nb : ¬ ((0 ≤ r ∧ r ≤ 6) ∧ (0 ≤ m ∧ m ≤ 95) ∧ (0 ≤ p ∧ p ≤ 9999999) ∧ 1 ≤ w ∧ w ≤ 60) := P
    clear P
    refine zb_90 (fun a0 a1 a2 => (absurd (by omega) nb))
      (fun a0 a1 a2 => (absurd (by omega) nb))
      (fun a0 a1 a2 G1 a4 a5 a6 => (absurd (by omega) nb))
      (fun a0 a1 a2 G1 a4 a5 a6 => (absurd (by omega) nb))
      (fun a0 a1 a2 G1 a4 a5 a6 => (absurd (by omega) nb))
      (fun a0 a1 a2 G1 a4 a5 a6 => (absurd (by omega) nb))
      (fun a0 a1 a2 => q)
      (fun a0 a1 => q)
      (fun a0 => q)
  have P' : (0 ≤ r ∧ r ≤ 6) ∧ (0 ≤ m ∧ m ≤ 95) ∧ (0 ≤ p ∧ p ≤ 9999999) ∧ 1 ≤ w ∧ w ≤ 60 := P
  obtain ⟨r, rfl⟩ := Int.eq_ofNat_of_zero_le P.1.1
  obtain ⟨m, rfl⟩ := Int.eq_ofNat_of_zero_le P.2.1.1
  have r7 : r < 7 := by omega
  have m96 : m < 96 := by omega
  have w1 : 1 ≤ w := by omega
  have z1 : zW ((m : Int) + 1) = ((m + 1 : Nat) : Int) := by unfold zW; omega
  refine zb_90 (fun a0 a1 a2 => (by rw [z1]; omega))
      (fun a0 a1 a2 => R)
      (fun a0 a1 a2 G1 a4 a5 a6 => (by omega))
      (fun a0 a1 a2 G1 a4 a5 a6 => (by omega))
      (fun a0 a1 a2 G1 a4 a5 a6 => (by omega))
      (fun a0 a1 a2 G1 a4 a5 a6 => (yAl (by unfold vOwed; rw [if_pos P]; exact (uOwed_congr w1 (fun k hk => (cw_r (z1 ▸ a4) (Int.ofNat_lt.mpr (Nat.lt_succ_of_le hk)) r7).2.2.2.1)).symm) (q _ yE_G a5)))
      (fun a0 a1 a2 => (by exfalso; omega))
      (fun a0 a1 => (by exfalso; omega))
      (fun a0 => (by exfalso; omega))
theorem ym_172 {d : Nat} (r m p w : Int) : yM (d + 60) 172 [.inl r, .inl m, .inl p, .inl w] (fun s => .inr (.inl (vOwed (mD s) r m p w))) := fun σ Q R q => by
  have q : ∀ s, yRel s → Q (some (.inr (.inl (vOwed (mD σ) r m p w)))) s := q
  by_cases P : (0 ≤ r ∧ r ≤ 6) ∧ (0 ≤ m ∧ m ≤ 95) ∧ (0 ≤ p ∧ p ≤ 9999999) ∧ 1 ≤ w ∧ w ≤ 60
  case neg =>
    rw [show vOwed (mD σ) r m p w = -4611686018427387904 from if_neg P] at q
    have qn := q
    have q := q _ R
    have nb : ¬ ((0 ≤ r ∧ r ≤ 6) ∧ (0 ≤ m ∧ m ≤ 95) ∧ (0 ≤ p ∧ p ≤ 9999999) ∧ 1 ≤ w ∧ w ≤ 60) := P
    clear P
    refine zb_172 (fun a0 a1 => (absurd (by omega) nb))
      (fun a0 a1 G1 a3 a4 => (absurd (by omega) nb))
      (fun a0 a1 G1 a3 a4 => (absurd (by omega) nb))
      (fun a0 a1 G1 a3 a4 => (absurd (by omega) nb))
      (fun a0 a1 G1 a3 a4 => (absurd (by omega) nb))
      (fun a0 a1 => q)
      (fun a0 => q)
  have P' : (0 ≤ r ∧ r ≤ 6) ∧ (0 ≤ m ∧ m ≤ 95) ∧ (0 ≤ p ∧ p ≤ 9999999) ∧ 1 ≤ w ∧ w ≤ 60 := P
  obtain ⟨r, rfl⟩ := Int.eq_ofNat_of_zero_le P.1.1
  obtain ⟨m, rfl⟩ := Int.eq_ofNat_of_zero_le P.2.1.1
  have r7 : r < 7 := by omega
  have m96 : m < 96 := by omega
  have w1 : 1 ≤ w := by omega
  refine zb_172 (fun a0 a1 => R)
      (fun a0 a1 G1 a3 a4 => (by omega))
      (fun a0 a1 G1 a3 a4 => (by omega))
      (fun a0 a1 G1 a3 a4 => (by omega))
      (fun a0 a1 G1 a3 a4 => (yAl (by unfold vOwed; rw [if_pos P]; exact (uOwed_congr w1 (fun k hk => (mr_r a3 (Nat.lt_of_le_of_lt hk m96) r7).2.2.2.2.1)).symm) (q _ a4)))
      (fun a0 a1 => (by exfalso; omega))
      (fun a0 => (by exfalso; omega))
theorem yp_owed {d : Nat} {σ : zS} (R : yRel σ) (r m p w : Int) : yPl d 90 172 [.inl r, .inl m, .inl p, .inl w] σ :=
  yp_ofl (f := fun s => vOwed (mD s) r m p w) (yc_90 r m p w) (ym_172 r m p w) (fun σ s e => by show vOwed (mD s) r m p w = _; rw [e.1]) R
theorem yc_91 {d : Nat} (r p w : Int) : yC (d + 60) 91 [.inl r, .inl p, .inl w] (fun s => .inl (vBrk (mD s) r p w)) := fun σ Q R q => by
  have q : ∀ s, yE σ s → yRel s → Q (some (.inl (vBrk (mD σ) r p w))) s := q
  by_cases P : (0 ≤ r ∧ r ≤ 6) ∧ (0 ≤ p ∧ p ≤ 9999999) ∧ 1 ≤ w ∧ w ≤ 60
  case neg =>
    rw [show vBrk (mD σ) r p w = -2 from if_neg P] at q
    have qn := q
    have q := q _ yE_r R
    have nb : ¬ ((0 ≤ r ∧ r ≤ 6) ∧ (0 ≤ p ∧ p ≤ 9999999) ∧ 1 ≤ w ∧ w ≤ 60) := P
    clear P
    refine zb_91 (fun a0 a1 => (absurd (by omega) nb))
      (fun a0 a1 => (absurd (by omega) nb))
      (fun a0 a1 G1 a3 a4 a5 => (absurd (by omega) nb))
      (fun a0 a1 => q)
      (fun a0 => q)
  have P' : (0 ≤ r ∧ r ≤ 6) ∧ (0 ≤ p ∧ p ≤ 9999999) ∧ 1 ≤ w ∧ w ≤ 60 := P
  obtain ⟨r, rfl⟩ := Int.eq_ofNat_of_zero_le P.1.1
  have r7 : r < 7 := by omega
  have w1 : 1 ≤ w := by omega
  have ir : (0 : Int) ≤ (r : Int) ∧ (r : Int) < 7 := by omega
  refine zb_91 (fun a0 a1 => (by omega))
      (fun a0 a1 => R)
      (fun a0 a1 G1 a3 a4 a5 => (zs_91l (d := d + 45) ir P.2.2 96 0 rfl (yA (by unfold vBrk; rw [if_pos P]; exact uBrk_congr (fun k _ hk => (uOwed_congr w1 (fun j hj => (cw_r a3 (by omega) r7).2.2.2.1)).symm)) (q _ yE_G a4))))
      (fun a0 a1 => (by exfalso; omega))
      (fun a0 => (by exfalso; omega))
theorem ym_173 {d : Nat} (r p w : Int) : yM (d + 60) 173 [.inl r, .inl p, .inl w] (fun s => .inl (vBrk (mD s) r p w)) := fun σ Q R q => by
  have q : ∀ s, yRel s → Q (some (.inl (vBrk (mD σ) r p w))) s := q
  by_cases P : (0 ≤ r ∧ r ≤ 6) ∧ (0 ≤ p ∧ p ≤ 9999999) ∧ 1 ≤ w ∧ w ≤ 60
  case neg =>
    rw [show vBrk (mD σ) r p w = -2 from if_neg P] at q
    have qn := q
    have q := q _ R
    have nb : ¬ ((0 ≤ r ∧ r ≤ 6) ∧ (0 ≤ p ∧ p ≤ 9999999) ∧ 1 ≤ w ∧ w ≤ 60) := P
    clear P
    refine zb_173 (fun a0 => (absurd (by omega) nb))
      (fun a0 G1 a2 a3 => (absurd (by omega) nb))
      (fun a0 => q)
  have P' : (0 ≤ r ∧ r ≤ 6) ∧ (0 ≤ p ∧ p ≤ 9999999) ∧ 1 ≤ w ∧ w ≤ 60 := P
  obtain ⟨r, rfl⟩ := Int.eq_ofNat_of_zero_le P.1.1
  have r7 : r < 7 := by omega
  have w1 : 1 ≤ w := by omega
  have ir : (0 : Int) ≤ (r : Int) ∧ (r : Int) < 7 := by omega
  refine zb_173 (fun a0 => R)
      (fun a0 G1 a2 a3 => (zs_173l (d := d + 53) ir P.2.2 96 0 rfl (yA (by unfold vBrk; rw [if_pos P]; exact uBrk_congr (fun k _ hk => (uOwed_congr w1 (fun j hj => (mr_r a2 (by omega) r7).2.2.2.2.1)).symm)) (q _ a3))))
      (fun a0 => (by exfalso; omega))
theorem yp_breaks {d : Nat} {σ : zS} (R : yRel σ) (r p w : Int) : yPi d 91 173 [.inl r, .inl p, .inl w] σ :=
  yp_of (f := fun s => vBrk (mD s) r p w) (yc_91 r p w) (ym_173 r p w) (fun σ s e => by show vBrk (mD s) r p w = _; rw [e.1]) R
