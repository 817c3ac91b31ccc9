-- count (wip/whole/gen/laws35.py)
-- X10_count
theorem zb_183 {d : Nat} {σ : zS} {Q : Option zV → zS → Prop} {w : Int}
    (o1 : w < 0 ∨ 6 < w → ¬ w ≤ 6 → ¬ 11 ≤ w → (0 : Int) ≤ zW (w - 7) ∧ zW (w - 7) < (4 : Int))
    (h1 : w < 0 ∨ 6 < w → w ≤ 6 → Q (some (.inl (-2))) σ)
    (h2 : w < 0 ∨ 6 < w → ¬ w ≤ 6 → 11 ≤ w → Q (some (.inl (-2))) σ)
    (h3 : w < 0 ∨ 6 < w → ¬ w ≤ 6 → ¬ 11 ≤ w → Q (some (.inl (σ.1 70 0 ((zW (w - 7)).toNat)))) σ)
    (h4 : w = 0 → Q (some (.inl (σ.1 10 0 4))) σ)
    (h5 : w = 1 → zX (d + 1) 183 9 [some (.inr (.inr (10, 0))), some (.inl w), some (.inl 0), some (.inl 0)] [] σ Q)
    (h6 : w = 2 → Q (some (.inl (σ.1 10 0 2))) σ)
    (h7 : w = 3 → Q (some (.inl (σ.1 10 0 3))) σ)
    (h8 : w = 4 → Q (some (.inl (σ.1 10 0 5))) σ)
    (h9 : w = 5 → Q (some (.inl (σ.1 10 0 6))) σ)
    (h10 : w = 6 → Q (some (.inl (σ.1 10 0 7))) σ) :
    zM (d + 1) 183 [.inr (.inr (10, 0)), .inl w] σ Q := by
  refine zX_run (n' := 3) (ls' := [some (.inr (.inr (10, 0))), some (.inl w), some (.inl 0), none]) (st' := [.inl w]) (σ' := σ) 3 rfl ?_
  refine zX_sw rfl (fun a1 => ?_) ⟨fun a1 => ?_, fun a1 => ?_, fun a1 => ?_, fun a1 => ?_, fun a1 => ?_, fun a1 => ?_, fun a1 => ?_, trivial⟩
  · skip
    refine zX_run (n' := 39) (ls' := [some (.inr (.inr (10, 0))), some (.inl w), some (.inl 0), none]) (st' := [.inl 6, .inl w]) (σ' := σ) 2 rfl ?_
    refine zX_c5 rfl (fun a2 => ?_) (fun a2 => ?_)
    · skip
      refine zX_run (n' := 51) (ls' := [some (.inr (.inr (10, 0))), some (.inl w), some (.inl 0), none]) (st' := [.inl (-2)]) (σ' := σ) 1 rfl ?_
      exact zX_ret rfl rfl (h1 a1 a2)
    · skip
      refine zX_run (n' := 42) (ls' := [some (.inr (.inr (10, 0))), some (.inl w), some (.inl 0), none]) (st' := [.inl 11, .inl w]) (σ' := σ) 2 rfl ?_
      refine zX_c3 rfl (fun a3 => ?_) (fun a3 => ?_)
      · skip
        refine zX_run (n' := 51) (ls' := [some (.inr (.inr (10, 0))), some (.inl w), some (.inl 0), none]) (st' := [.inl (-2)]) (σ' := σ) 1 rfl ?_
        exact zX_ret rfl rfl (h2 a1 a2 a3)
      · skip
        refine zX_run (n' := 48) (ls' := [some (.inr (.inr (10, 0))), some (.inl w), some (.inl 0), none]) (st' := [.inl (zW (w - 7)), .inr (.inr (70, 0))]) (σ' := σ) 5 rfl ?_
        refine zX_ald1 (L := 4) rfl (by decide) rfl (o1 a1 a2 a3) ?_
        refine zX_run (n' := 51) (ls' := [some (.inr (.inr (10, 0))), some (.inl w), some (.inl 0), none]) (st' := [.inl (σ.1 70 0 ((zW (w - 7)).toNat))]) (σ' := σ) 1 rfl ?_
        exact zX_ret rfl rfl (h3 a1 a2 a3)
  · skip
    refine zX_run (n' := 6) (ls' := [some (.inr (.inr (10, 0))), some (.inl w), some (.inl 0), none]) (st' := [.inl (σ.1 10 0 4)]) (σ' := σ) 2 rfl ?_
    exact zX_ret rfl rfl (h4 a1)
  · skip
    refine zX_run (n' := 9) (ls' := [some (.inr (.inr (10, 0))), some (.inl w), some (.inl 0), some (.inl 0)]) (st' := []) (σ' := σ) 2 rfl ?_
    exact h5 a1
  · skip
    refine zX_run (n' := 24) (ls' := [some (.inr (.inr (10, 0))), some (.inl w), some (.inl 0), none]) (st' := [.inl (σ.1 10 0 2)]) (σ' := σ) 2 rfl ?_
    exact zX_ret rfl rfl (h6 a1)
  · skip
    refine zX_run (n' := 27) (ls' := [some (.inr (.inr (10, 0))), some (.inl w), some (.inl 0), none]) (st' := [.inl (σ.1 10 0 3)]) (σ' := σ) 2 rfl ?_
    exact zX_ret rfl rfl (h7 a1)
  · skip
    refine zX_run (n' := 30) (ls' := [some (.inr (.inr (10, 0))), some (.inl w), some (.inl 0), none]) (st' := [.inl (σ.1 10 0 5)]) (σ' := σ) 2 rfl ?_
    exact zX_ret rfl rfl (h8 a1)
  · skip
    refine zX_run (n' := 33) (ls' := [some (.inr (.inr (10, 0))), some (.inl w), some (.inl 0), none]) (st' := [.inl (σ.1 10 0 6)]) (σ' := σ) 2 rfl ?_
    exact zX_ret rfl rfl (h9 a1)
  · skip
    refine zX_run (n' := 36) (ls' := [some (.inr (.inr (10, 0))), some (.inl w), some (.inl 0), none]) (st' := [.inl (σ.1 10 0 7)]) (σ' := σ) 2 rfl ?_
    exact zX_ret rfl rfl (h10 a1)
-- X10_count
theorem zb_183l {d : Nat} {σ : zS} {Q : Option zV → zS → Prop} {w n r : Int}
    (o1 : ¬ 7 ≤ r → (0 : Int) ≤ r ∧ r < (7 : Int))
    (h1 : 7 ≤ r → Q (some (.inl n)) σ)
    (h2 : ¬ 7 ≤ r → σ.1 55 0 (r.toNat) = 0 → zX (d + 1) 183 9 [some (.inr (.inr (10, 0))), some (.inl w), some (.inl n), some (.inl (zW (r + 1)))] [] σ Q)
    (h3 : ¬ 7 ≤ r → ¬ σ.1 55 0 (r.toNat) = 0 → zX (d + 1) 183 9 [some (.inr (.inr (10, 0))), some (.inl w), some (.inl (zW (n + 1))), some (.inl (zW (r + 1)))] [] σ Q) :
    zX (d + 1) 183 9 [some (.inr (.inr (10, 0))), some (.inl w), some (.inl n), some (.inl r)] [] σ Q := by
  refine zX_run (n' := 11) (ls' := [some (.inr (.inr (10, 0))), some (.inl w), some (.inl n), some (.inl r)]) (st' := [.inl 7, .inl r]) (σ' := σ) 2 rfl ?_
  refine zX_c3 rfl (fun a1 => ?_) (fun a1 => ?_)
  · skip
    refine zX_run (n' := 21) (ls' := [some (.inr (.inr (10, 0))), some (.inl w), some (.inl n), some (.inl r)]) (st' := [.inl n]) (σ' := σ) 1 rfl ?_
    exact zX_ret rfl rfl (h1 a1)
  · skip
    refine zX_run (n' := 15) (ls' := [some (.inr (.inr (10, 0))), some (.inl w), some (.inl n), some (.inl r)]) (st' := [.inl r, .inr (.inr (55, 0))]) (σ' := σ) 3 rfl ?_
    refine zX_ald4 (L := 7) rfl (by decide) rfl (o1 a1) ?_
    refine zX_i0 rfl (fun a2 => ?_) (fun a2 => ?_)
    · skip
      refine zX_run (n' := 9) (ls' := [some (.inr (.inr (10, 0))), some (.inl w), some (.inl n), some (.inl (zW (r + 1)))]) (st' := []) (σ' := σ) 2 rfl ?_
      exact h2 a1 a2
    · skip
      refine zX_run (n' := 9) (ls' := [some (.inr (.inr (10, 0))), some (.inl w), some (.inl (zW (n + 1))), some (.inl (zW (r + 1)))]) (st' := []) (σ' := σ) 3 rfl ?_
      exact h3 a1 a2
theorem zc_183 {d : Nat} {σ : zS} {Q : Option zV → zS → Prop} {w : Int} (h : Q (some (.inl (uCnt (σ.1 55 0) 7 : Int))) σ) : zX (d + 1) 183 9 [some (.inr (.inr (10, 0))), some (.inl w), some (.inl 0), some (.inl 0)] [] σ Q := by
  refine zLoop (P := fun r => zX (d + 1) 183 9 [some (.inr (.inr (10, 0))), some (.inl w), some (.inl (uCnt (σ.1 55 0) r : Int)), some (.inl (r : Int))] [] σ Q) (k := 0) (N := 7) (by omega) ?_ (fun r _ hr ih => ?_)
  · exact zb_183l (fun q => absurd (by decide) q) (fun _ => h) (fun q => absurd (by decide) q) (fun q => absurd (by decide) q)
  · have b := uCnt_le (th := σ.1 55 0) (r := r)
    rw [← zWs (m := r) (by omega)] at ih
    refine zb_183l (fun _ => by omega) (fun q => absurd q (by omega)) (fun _ hz => ?_) (fun _ hz => ?_)
    · rw [show uCnt (σ.1 55 0) (r + 1) = uCnt (σ.1 55 0) r from if_pos hz] at ih; exact ih
    · rw [show uCnt (σ.1 55 0) (r + 1) = uCnt (σ.1 55 0) r + 1 from if_neg hz, ← zWs (m := uCnt (σ.1 55 0) r) (by omega)] at ih; exact ih
theorem uCnt_congr {f g : Nat → Int} : ∀ {n : Nat}, (∀ j, j < n → f j = g j) → uCnt f n = uCnt g n
  | 0, _ => rfl
  | n + 1, h => by unfold uCnt; rw [h n (by omega), uCnt_congr (n := n) (fun j hj => h j (by omega))]
theorem yp_count {d : Nat} {σ : zS} (R : yRel σ) (w : Int) (hw : -2147483648 ≤ w ∧ w ≤ 2147483647) : yPi d 98 183 [.inl w] σ := by
  have all := R
  obtain ⟨S, G, L, H, C, Tx, Ru, K, Tp, Sh, B⟩ := R
  have S2 := S.2.1
  have G1 := G.1
  have L2 := L.2.1
  have H1 := H.1
  have C1 := C.1
  have T1 := Tx.1
  have P1 := Tp.1
  clear S G H C Tx Tp Sh B K
  refine zb_98 (d := d + 57) (fun _ _ => by omega) (fun a b => ?_) (fun a b => ?_) (fun a => ?_) (fun a => ?_) (fun a => ?_) (fun a => ?_) (fun a => ?_) (fun a => ?_) (fun a => ?_)
  · have z : zW (w - 7) = w - 7 := by unfold zW at b ⊢; omega
    rw [z] at b ⊢
    have u := (Ru (w - 7).toNat (by omega)).1
    refine zb_183 (d := d + 59) (fun _ _ _ => by rw [z]; omega) (fun _ q => absurd q (by omega)) (fun _ _ q => absurd q (by omega)) (fun _ _ _ => ?_) (fun q => absurd q (by omega)) (fun q => absurd q (by omega)) (fun q => absurd q (by omega)) (fun q => absurd q (by omega)) (fun q => absurd q (by omega)) (fun q => absurd q (by omega)) (fun q => absurd q (by omega))
    rw [z]
    exact ⟨⟨_, rfl, congrArg (fun x => some (Sum.inl x)) u.symm⟩, all⟩
  · refine zb_183 (d := d + 59) (fun _ _ _ => by unfold zW at b ⊢; omega) (fun _ _ => ⟨⟨_, rfl, rfl⟩, all⟩) (fun _ _ _ => ⟨⟨_, rfl, rfl⟩, all⟩) (fun _ _ _ => ?_) (fun q => absurd q (by omega)) (fun q => absurd q (by omega)) (fun q => absurd q (by omega)) (fun q => absurd q (by omega)) (fun q => absurd q (by omega)) (fun q => absurd q (by omega)) (fun q => absurd q (by omega))
    exfalso; unfold zW at b; omega
  · exact zb_183 (d := d + 59) (fun _ _ _ => by omega) (fun q _ => absurd q (by omega)) (fun q _ _ => absurd q (by omega)) (fun q _ _ => absurd q (by omega)) (fun _ => ⟨⟨_, rfl, congrArg (fun x => some (Sum.inl x)) (H1.1).symm⟩, all⟩) (fun q => absurd q (by omega)) (fun q => absurd q (by omega)) (fun q => absurd q (by omega)) (fun q => absurd q (by omega)) (fun q => absurd q (by omega)) (fun q => absurd q (by omega))
  · exact zb_183 (d := d + 59) (fun _ _ _ => by omega) (fun q _ => absurd q (by omega)) (fun q _ _ => absurd q (by omega)) (fun q _ _ => absurd q (by omega)) (fun q => absurd q (by omega)) (fun _ => zc_183 ⟨⟨_, rfl, congrArg (fun (x : Nat) => some (Sum.inl (x : Int))) (uCnt_congr (fun j hj => ((L2 j hj).1).symm))⟩, all⟩) (fun q => absurd q (by omega)) (fun q => absurd q (by omega)) (fun q => absurd q (by omega)) (fun q => absurd q (by omega)) (fun q => absurd q (by omega))
  · exact zb_183 (d := d + 59) (fun _ _ _ => by omega) (fun q _ => absurd q (by omega)) (fun q _ _ => absurd q (by omega)) (fun q _ _ => absurd q (by omega)) (fun q => absurd q (by omega)) (fun q => absurd q (by omega)) (fun _ => ⟨⟨_, rfl, congrArg (fun x => some (Sum.inl x)) (S2.1).symm⟩, all⟩) (fun q => absurd q (by omega)) (fun q => absurd q (by omega)) (fun q => absurd q (by omega)) (fun q => absurd q (by omega))
  · exact zb_183 (d := d + 59) (fun _ _ _ => by omega) (fun q _ => absurd q (by omega)) (fun q _ _ => absurd q (by omega)) (fun q _ _ => absurd q (by omega)) (fun q => absurd q (by omega)) (fun q => absurd q (by omega)) (fun q => absurd q (by omega)) (fun _ => ⟨⟨_, rfl, congrArg (fun x => some (Sum.inl x)) (G1.1).symm⟩, all⟩) (fun q => absurd q (by omega)) (fun q => absurd q (by omega)) (fun q => absurd q (by omega))
  · exact zb_183 (d := d + 59) (fun _ _ _ => by omega) (fun q _ => absurd q (by omega)) (fun q _ _ => absurd q (by omega)) (fun q _ _ => absurd q (by omega)) (fun q => absurd q (by omega)) (fun q => absurd q (by omega)) (fun q => absurd q (by omega)) (fun q => absurd q (by omega)) (fun _ => ⟨⟨_, rfl, congrArg (fun x => some (Sum.inl x)) (C1.1).symm⟩, all⟩) (fun q => absurd q (by omega)) (fun q => absurd q (by omega))
  · exact zb_183 (d := d + 59) (fun _ _ _ => by omega) (fun q _ => absurd q (by omega)) (fun q _ _ => absurd q (by omega)) (fun q _ _ => absurd q (by omega)) (fun q => absurd q (by omega)) (fun q => absurd q (by omega)) (fun q => absurd q (by omega)) (fun q => absurd q (by omega)) (fun q => absurd q (by omega)) (fun _ => ⟨⟨_, rfl, congrArg (fun x => some (Sum.inl x)) (T1.1).symm⟩, all⟩) (fun q => absurd q (by omega))
  · exact zb_183 (d := d + 59) (fun _ _ _ => by omega) (fun q _ => absurd q (by omega)) (fun q _ _ => absurd q (by omega)) (fun q _ _ => absurd q (by omega)) (fun q => absurd q (by omega)) (fun q => absurd q (by omega)) (fun q => absurd q (by omega)) (fun q => absurd q (by omega)) (fun q => absurd q (by omega)) (fun q => absurd q (by omega)) (fun _ => ⟨⟨_, rfl, congrArg (fun x => some (Sum.inl x)) (P1.1).symm⟩, all⟩)
-- X1_isOf
theorem zb_31 {d : Nat} {σ : zS} {Q : Option zV → zS → Prop} {h : Nat} {k : Int}
    (h1 : zX (d + 1) 31 5 [some (.inr (.inr (1, h))), some (.inl k), some (.inl (σ.1 1 h 0)), some (.inl 0)] [] σ Q) :
    zM (d + 1) 31 [.inr (.inr (1, h)), .inl k] σ Q := by
  refine zX_run (n' := 5) (ls' := [some (.inr (.inr (1, h))), some (.inl k), some (.inl (σ.1 1 h 0)), some (.inl 0)]) (st' := []) (σ' := σ) 5 rfl ?_
  exact h1
-- X1_isOf
theorem zb_31l {d : Nat} {σ : zS} {Q : Option zV → zS → Prop} {h : Nat} {k a i : Int}
    (o1 : ¬ 6 ≤ i → 0 ≤ a ∧ a ≤ 5 → ¬ a = k → zIn a 6 = true)
    (h1 : 6 ≤ i → Q (some (.inl 0)) σ)
    (h2 : ¬ 6 ≤ i → 0 ≤ a ∧ a ≤ 5 → ¬ a = k → zX (d + 11) 31 5 [some (.inr (.inr (1, h))), some (.inl k), some (.inl ((rvUn.getD a.toNat 0).toInt)), some (.inl (zW (i + 1)))] [] σ Q)
    (h3 : ¬ 6 ≤ i → 0 ≤ a ∧ a ≤ 5 → a = k → Q (some (.inl 1)) σ)
    (h4 : ¬ 6 ≤ i → ¬ (0 ≤ a ∧ a ≤ 5) → Q (some (.inl 0)) σ) :
    zX (d + 11) 31 5 [some (.inr (.inr (1, h))), some (.inl k), some (.inl a), some (.inl i)] [] σ Q := by
  refine zX_run (n' := 8) (ls' := [some (.inr (.inr (1, h))), some (.inl k), some (.inl a), some (.inl i)]) (st' := [.inl 6, .inl i]) (σ' := σ) 3 rfl ?_
  refine zX_c3 rfl (fun a1 => ?_) (fun a1 => ?_)
  · skip
    refine zX_run (n' := 29) (ls' := [some (.inr (.inr (1, h))), some (.inl k), some (.inl a), some (.inl i)]) (st' := [.inl 0]) (σ' := σ) 1 rfl ?_
    exact zX_ret rfl rfl (h1 a1)
  · skip
    refine zX_run (n' := 15) (ls' := [some (.inr (.inr (1, h))), some (.inl k), some (.inl a), some (.inl i)]) (st' := [.inl 5, .inl 0, .inl a]) (σ' := σ) 6 rfl ?_
    refine zX_call rfl rfl ?_
    refine zs_104 (fun a2 => ?_) (fun a3 => ?_)
    · skip
      refine zX_run (n' := 19) (ls' := [some (.inr (.inr (1, h))), some (.inl k), some (.inl a), some (.inl i)]) (st' := [.inl k, .inl a]) (σ' := σ) 3 rfl ?_
      refine zX_c1 rfl (fun a4 => ?_) (fun a4 => ?_)
      · skip
        refine zX_run (n' := 24) (ls' := [some (.inr (.inr (1, h))), some (.inl k), some (.inl a), some (.inl i)]) (st' := [.inl a, .inr (.inr (105, 0))]) (σ' := σ) 2 rfl ?_
        refine zX_und rfl (o1 a1 a2 a4) ?_
        refine zX_run (n' := 5) (ls' := [some (.inr (.inr (1, h))), some (.inl k), some (.inl ((rvUn.getD a.toNat 0).toInt)), some (.inl (zW (i + 1)))]) (st' := []) (σ' := σ) 3 rfl ?_
        exact h2 a1 a2 a4
      · skip
        refine zX_run (n' := 21) (ls' := [some (.inr (.inr (1, h))), some (.inl k), some (.inl a), some (.inl i)]) (st' := [.inl 1]) (σ' := σ) 1 rfl ?_
        exact zX_ret rfl rfl (h3 a1 a2 a4)
    · skip
      refine zX_run (n' := 29) (ls' := [some (.inr (.inr (1, h))), some (.inl k), some (.inl a), some (.inl i)]) (st' := [.inl 0]) (σ' := σ) 2 rfl ?_
      exact zX_ret rfl rfl (h4 a1 a3)
def uOf (a k : Int) : Prop := k = a ∨ k = 0 ∨ (k = 1 ∧ (a = 3 ∨ a = 4 ∨ a = 5)) ∨ (k = 3 ∧ a = 5)
theorem zo_s {d : Nat} {σ : zS} {Q : Option zV → zS → Prop} {h : Nat} {k a b i : Int} (ha : 0 ≤ a ∧ a ≤ 5) (hb : (rvUn.getD a.toNat 0).toInt = b) (hi : 0 ≤ i ∧ i < 6)
    (h1 : a = k → Q (some (.inl 1)) σ) (h2 : ¬ a = k → zX (d + 11) 31 5 [some (.inr (.inr (1, h))), some (.inl k), some (.inl b), some (.inl (i + 1))] [] σ Q) :
    zX (d + 11) 31 5 [some (.inr (.inr (1, h))), some (.inl k), some (.inl a), some (.inl i)] [] σ Q := by
  refine zb_31l (fun _ _ _ => decide_eq_true (show 0 ≤ a ∧ a < ((6 : Nat) : Int) by omega)) (fun q => absurd q (by omega)) (fun _ _ q => ?_) (fun _ _ q => h1 q) (fun _ q => absurd ha q)
  rw [hb, show zW (i + 1) = i + 1 by unfold zW; omega]
  exact h2 q
theorem zo_n {d : Nat} {σ : zS} {Q : Option zV → zS → Prop} {h : Nat} {k i : Int} (h2 : Q (some (.inl 0)) σ) :
    zX (d + 11) 31 5 [some (.inr (.inr (1, h))), some (.inl k), some (.inl (-1)), some (.inl i)] [] σ Q := by
  exact zb_31l (fun _ q _ => absurd q (by decide)) (fun _ => h2) (fun _ q _ => absurd q (by decide)) (fun _ q _ => absurd q (by decide)) (fun _ _ => h2)
theorem zo_0 {d : Nat} {σ : zS} {Q : Option zV → zS → Prop} {h : Nat} {k i : Int} (hi : 0 ≤ i ∧ i < 6) (h1 : 0 = k → Q (some (.inl 1)) σ) (h2 : ¬ 0 = k → Q (some (.inl 0)) σ) :
    zX (d + 11) 31 5 [some (.inr (.inr (1, h))), some (.inl k), some (.inl 0), some (.inl i)] [] σ Q :=
  zo_s (by omega) (by decide) hi h1 (fun q => zo_n (h2 q))
theorem zo_1 {d : Nat} {σ : zS} {Q : Option zV → zS → Prop} {h : Nat} {k i : Int} (hi : 0 ≤ i ∧ i < 5) (h1 : 1 = k ∨ 0 = k → Q (some (.inl 1)) σ) (h2 : ¬ (1 = k ∨ 0 = k) → Q (some (.inl 0)) σ) :
    zX (d + 11) 31 5 [some (.inr (.inr (1, h))), some (.inl k), some (.inl 1), some (.inl i)] [] σ Q :=
  zo_s (b := 0) (by omega) (by decide) (by omega) (fun q => h1 (by omega)) (fun q => zo_0 (by omega) (fun r => h1 (by omega)) (fun r => h2 (by omega)))
theorem zo_3 {d : Nat} {σ : zS} {Q : Option zV → zS → Prop} {h : Nat} {k i : Int} (hi : 0 ≤ i ∧ i < 4) (h1 : 3 = k ∨ 1 = k ∨ 0 = k → Q (some (.inl 1)) σ) (h2 : ¬ (3 = k ∨ 1 = k ∨ 0 = k) → Q (some (.inl 0)) σ) :
    zX (d + 11) 31 5 [some (.inr (.inr (1, h))), some (.inl k), some (.inl 3), some (.inl i)] [] σ Q :=
  zo_s (b := 1) (by omega) (by decide) (by omega) (fun q => h1 (by omega)) (fun q => zo_1 (by omega) (fun r => h1 (by omega)) (fun r => h2 (by omega)))
theorem zo_a {d : Nat} {σ : zS} {Q : Option zV → zS → Prop} {h : Nat} {a k : Int} (ha : 0 ≤ a ∧ a ≤ 5) (h1 : uOf a k → Q (some (.inl 1)) σ) (h2 : ¬ uOf a k → Q (some (.inl 0)) σ) :
    zX (d + 11) 31 5 [some (.inr (.inr (1, h))), some (.inl k), some (.inl a), some (.inl 0)] [] σ Q := by
  unfold uOf at h1 h2
  rcases (show a = 0 ∨ a = 1 ∨ a = 2 ∨ a = 3 ∨ a = 4 ∨ a = 5 by omega) with rfl | rfl | rfl | rfl | rfl | rfl
  · exact zo_0 (by omega) (fun r => h1 (by omega)) (fun r => h2 (by omega))
  · exact zo_1 (by omega) (fun r => h1 (by omega)) (fun r => h2 (by omega))
  · exact zo_s (b := 0) (by omega) (by decide) (by omega) (fun q => h1 (by omega)) (fun q => zo_0 (by omega) (fun r => h1 (by omega)) (fun r => h2 (by omega)))
  · exact zo_3 (by omega) (fun r => h1 (by omega)) (fun r => h2 (by omega))
  · exact zo_s (b := 1) (by omega) (by decide) (by omega) (fun q => h1 (by omega)) (fun q => zo_1 (by omega) (fun r => h1 (by omega)) (fun r => h2 (by omega)))
  · exact zo_s (b := 3) (by omega) (by decide) (by omega) (fun q => h1 (by omega)) (fun q => zo_3 (by omega) (fun r => h1 (by omega)) (fun r => h2 (by omega)))
theorem zs_31 {d : Nat} {σ : zS} {Q : Option zV → zS → Prop} {h : Nat} {k : Int} (o1 : 0 ≤ σ.1 1 h 0 ∧ σ.1 1 h 0 ≤ 5) (h1 : uOf (σ.1 1 h 0) k → Q (some (.inl 1)) σ) (h2 : ¬ uOf (σ.1 1 h 0) k → Q (some (.inl 0)) σ) :
    zM (d + 11) 31 [.inr (.inr (1, h)), .inl k] σ Q :=
  zb_31 (d := d + 10) (zo_a o1 h1 h2)
