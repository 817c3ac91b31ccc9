-- loop-free methods of the reference, walked by wip/whole/gen/vc.py (laws2.py)
-- X10_isReach
theorem zm_119 {d : Nat} {σ : zS} {Q : Option zV → zS → Prop} {p1 : Int}
    (h1 : p1 < 0 → Q (some (.inl 0)) σ)
    (h2 : ¬ p1 < 0 → 7 ≤ p1 → Q (some (.inl 0)) σ)
    (h3 : ¬ p1 < 0 → ¬ 7 ≤ p1 → Q (some (.inl 1)) σ) :
    zM d 119 [.inl p1] σ Q := by
  refine zX_run (n' := 1) (ls' := [some (.inl p1)]) (st' := [.inl p1]) (σ' := σ) 1 rfl ?_
  refine zX_i2 rfl (fun a1 => ?_) (fun a1 => ?_)
  · skip
    refine zX_run (n' := 8) (ls' := [some (.inl p1)]) (st' := [.inl 0]) (σ' := σ) 1 rfl ?_
    exact zX_ret rfl rfl (h1 a1)
  · skip
    refine zX_run (n' := 4) (ls' := [some (.inl p1)]) (st' := [.inl 7, .inl p1]) (σ' := σ) 2 rfl ?_
    refine zX_c3 rfl (fun a2 => ?_) (fun a2 => ?_)
    · skip
      refine zX_run (n' := 8) (ls' := [some (.inl p1)]) (st' := [.inl 0]) (σ' := σ) 1 rfl ?_
      exact zX_ret rfl rfl (h2 a1 a2)
    · skip
      refine zX_run (n' := 8) (ls' := [some (.inl p1)]) (st' := [.inl 1]) (σ' := σ) 2 rfl ?_
      exact zX_ret rfl rfl (h3 a1 a2)
-- X10_isMonth
theorem zm_120 {d : Nat} {σ : zS} {Q : Option zV → zS → Prop} {p1 : Int}
    (h1 : p1 < 0 → Q (some (.inl 0)) σ)
    (h2 : ¬ p1 < 0 → 96 ≤ p1 → Q (some (.inl 0)) σ)
    (h3 : ¬ p1 < 0 → ¬ 96 ≤ p1 → Q (some (.inl 1)) σ) :
    zM d 120 [.inl p1] σ Q := by
  refine zX_run (n' := 1) (ls' := [some (.inl p1)]) (st' := [.inl p1]) (σ' := σ) 1 rfl ?_
  refine zX_i2 rfl (fun a1 => ?_) (fun a1 => ?_)
  · skip
    refine zX_run (n' := 8) (ls' := [some (.inl p1)]) (st' := [.inl 0]) (σ' := σ) 1 rfl ?_
    exact zX_ret rfl rfl (h1 a1)
  · skip
    refine zX_run (n' := 4) (ls' := [some (.inl p1)]) (st' := [.inl 96, .inl p1]) (σ' := σ) 2 rfl ?_
    refine zX_c3 rfl (fun a2 => ?_) (fun a2 => ?_)
    · skip
      refine zX_run (n' := 8) (ls' := [some (.inl p1)]) (st' := [.inl 0]) (σ' := σ) 1 rfl ?_
      exact zX_ret rfl rfl (h2 a1 a2)
    · skip
      refine zX_run (n' := 8) (ls' := [some (.inl p1)]) (st' := [.inl 1]) (σ' := σ) 2 rfl ?_
      exact zX_ret rfl rfl (h3 a1 a2)
-- X10_isHold
theorem zm_121 {d : Nat} {σ : zS} {Q : Option zV → zS → Prop} {p1 : Int}
    (h1 : p1 < 0 → Q (some (.inl 0)) σ)
    (h2 : ¬ p1 < 0 → σ.1 10 0 4 ≤ p1 → Q (some (.inl 0)) σ)
    (h3 : ¬ p1 < 0 → ¬ σ.1 10 0 4 ≤ p1 → Q (some (.inl 1)) σ) :
    zM d 121 [.inr (.inr (10, 0)), .inl p1] σ Q := by
  refine zX_run (n' := 1) (ls' := [some (.inr (.inr (10, 0))), some (.inl p1)]) (st' := [.inl p1]) (σ' := σ) 1 rfl ?_
  refine zX_i2 rfl (fun a1 => ?_) (fun a1 => ?_)
  · skip
    refine zX_run (n' := 9) (ls' := [some (.inr (.inr (10, 0))), some (.inl p1)]) (st' := [.inl 0]) (σ' := σ) 1 rfl ?_
    exact zX_ret rfl rfl (h1 a1)
  · skip
    refine zX_run (n' := 5) (ls' := [some (.inr (.inr (10, 0))), some (.inl p1)]) (st' := [.inl (σ.1 10 0 4), .inl p1]) (σ' := σ) 3 rfl ?_
    refine zX_c3 rfl (fun a2 => ?_) (fun a2 => ?_)
    · skip
      refine zX_run (n' := 9) (ls' := [some (.inr (.inr (10, 0))), some (.inl p1)]) (st' := [.inl 0]) (σ' := σ) 1 rfl ?_
      exact zX_ret rfl rfl (h2 a1 a2)
    · skip
      refine zX_run (n' := 9) (ls' := [some (.inr (.inr (10, 0))), some (.inl p1)]) (st' := [.inl 1]) (σ' := σ) 2 rfl ?_
      exact zX_ret rfl rfl (h3 a1 a2)
-- X10_side
theorem zm_122 {d : Nat} {σ : zS} {Q : Option zV → zS → Prop} {p1 : Int} {p2 : Int} {p3 : Int}
    (o1 : ¬ p1 < 0 → ¬ 7 ≤ p1 → ¬ p2 < 0 → ¬ 11 < p2 → ¬ p3 < 0 → p3 ≤ 9999 → (0 : Int) ≤ zW ((zW (12 * p1)) + p2) ∧ zW ((zW (12 * p1)) + p2) < (84 : Int))
    (o2 : ¬ p1 < 0 → ¬ 7 ≤ p1 → ¬ p2 < 0 → ¬ 11 < p2 → ¬ p3 < 0 → p3 ≤ 9999 → (0 : Int) ≤ zW ((zW (12 * p1)) + p2) ∧ zW ((zW (12 * p1)) + p2) < (84 : Int))
    (h1 : p1 < 0 → Q (some (.inl (-2))) σ)
    (h2 : ¬ p1 < 0 → 7 ≤ p1 → Q (some (.inl (-2))) σ)
    (h3 : ¬ p1 < 0 → ¬ 7 ≤ p1 → p2 < 0 → Q (some (.inl (-2))) σ)
    (h4 : ¬ p1 < 0 → ¬ 7 ≤ p1 → ¬ p2 < 0 → 11 < p2 → Q (some (.inl (-2))) σ)
    (h5 : ¬ p1 < 0 → ¬ 7 ≤ p1 → ¬ p2 < 0 → ¬ 11 < p2 → p3 < 0 → Q (some (.inl (-2))) σ)
    (h6 : ¬ p1 < 0 → ¬ 7 ≤ p1 → ¬ p2 < 0 → ¬ 11 < p2 → ¬ p3 < 0 → p3 ≤ 9999 → Q (some (.inl (σ.1 47 0 ((zW ((zW (12 * p1)) + p2)).toNat)))) (zU σ 47 0 ((zW ((zW (12 * p1)) + p2)).toNat) p3))
    (h7 : ¬ p1 < 0 → ¬ 7 ≤ p1 → ¬ p2 < 0 → ¬ 11 < p2 → ¬ p3 < 0 → ¬ p3 ≤ 9999 → Q (some (.inl (-2))) σ) :
    zM (d + 1) 122 [.inr (.inr (10, 0)), .inl p1, .inl p2, .inl p3] σ Q := by
  refine zX_run (n' := 1) (ls' := [some (.inr (.inr (10, 0))), some (.inl p1), some (.inl p2), some (.inl p3), none]) (st' := [.inl p1]) (σ' := σ) 1 rfl ?_
  refine zX_call rfl rfl ?_
  refine zm_119 (fun a1 => ?_) (fun a2 a3 => ?_) (fun a4 a5 => ?_)
  · skip
    refine zX_run (n' := 14) (ls' := [some (.inr (.inr (10, 0))), some (.inl p1), some (.inl p2), some (.inl p3), none]) (st' := [.inl (-2)]) (σ' := σ) 2 rfl ?_
    exact zX_ret rfl rfl (h1 a1)
  · skip
    refine zX_run (n' := 14) (ls' := [some (.inr (.inr (10, 0))), some (.inl p1), some (.inl p2), some (.inl p3), none]) (st' := [.inl (-2)]) (σ' := σ) 2 rfl ?_
    exact zX_ret rfl rfl (h2 a2 a3)
  · skip
    refine zX_run (n' := 4) (ls' := [some (.inr (.inr (10, 0))), some (.inl p1), some (.inl p2), some (.inl p3), none]) (st' := [.inl p2]) (σ' := σ) 2 rfl ?_
    refine zX_i2 rfl (fun a6 => ?_) (fun a6 => ?_)
    · skip
      refine zX_run (n' := 14) (ls' := [some (.inr (.inr (10, 0))), some (.inl p1), some (.inl p2), some (.inl p3), none]) (st' := [.inl (-2)]) (σ' := σ) 1 rfl ?_
      exact zX_ret rfl rfl (h3 a4 a5 a6)
    · skip
      refine zX_run (n' := 7) (ls' := [some (.inr (.inr (10, 0))), some (.inl p1), some (.inl p2), some (.inl p3), none]) (st' := [.inl 11, .inl p2]) (σ' := σ) 2 rfl ?_
      refine zX_c4 rfl (fun a7 => ?_) (fun a7 => ?_)
      · skip
        refine zX_run (n' := 14) (ls' := [some (.inr (.inr (10, 0))), some (.inl p1), some (.inl p2), some (.inl p3), none]) (st' := [.inl (-2)]) (σ' := σ) 1 rfl ?_
        exact zX_ret rfl rfl (h4 a4 a5 a6 a7)
      · skip
        refine zX_run (n' := 9) (ls' := [some (.inr (.inr (10, 0))), some (.inl p1), some (.inl p2), some (.inl p3), none]) (st' := [.inl p3]) (σ' := σ) 1 rfl ?_
        refine zX_i2 rfl (fun a8 => ?_) (fun a8 => ?_)
        · skip
          refine zX_run (n' := 14) (ls' := [some (.inr (.inr (10, 0))), some (.inl p1), some (.inl p2), some (.inl p3), none]) (st' := [.inl (-2)]) (σ' := σ) 1 rfl ?_
          exact zX_ret rfl rfl (h5 a4 a5 a6 a7 a8)
        · skip
          refine zX_run (n' := 12) (ls' := [some (.inr (.inr (10, 0))), some (.inl p1), some (.inl p2), some (.inl p3), none]) (st' := [.inl 9999, .inl p3]) (σ' := σ) 2 rfl ?_
          refine zX_c5 rfl (fun a9 => ?_) (fun a9 => ?_)
          · skip
            refine zX_run (n' := 22) (ls' := [some (.inr (.inr (10, 0))), some (.inl p1), some (.inl p2), some (.inl p3), none]) (st' := [.inl (zW ((zW (12 * p1)) + p2)), .inr (.inr (47, 0))]) (σ' := σ) 7 rfl ?_
            refine zX_ald1 (L := 84) rfl (by decide) rfl (o1 a4 a5 a6 a7 a8 a9) ?_
            refine zX_run (n' := 32) (ls' := [some (.inr (.inr (10, 0))), some (.inl p1), some (.inl p2), some (.inl p3), some (.inl (σ.1 47 0 ((zW ((zW (12 * p1)) + p2)).toNat)))]) (st' := [.inl p3, .inl (zW ((zW (12 * p1)) + p2)), .inr (.inr (47, 0))]) (σ' := σ) 9 rfl ?_
            refine zX_ast1 (L := 84) rfl (by decide) rfl (o2 a4 a5 a6 a7 a8 a9) ?_
            refine zX_run (n' := 34) (ls' := [some (.inr (.inr (10, 0))), some (.inl p1), some (.inl p2), some (.inl p3), some (.inl (σ.1 47 0 ((zW ((zW (12 * p1)) + p2)).toNat)))]) (st' := [.inl (σ.1 47 0 ((zW ((zW (12 * p1)) + p2)).toNat))]) (σ' := (zU σ 47 0 ((zW ((zW (12 * p1)) + p2)).toNat) p3)) 1 rfl ?_
            exact zX_ret rfl rfl (h6 a4 a5 a6 a7 a8 a9)
          · skip
            refine zX_run (n' := 14) (ls' := [some (.inr (.inr (10, 0))), some (.inl p1), some (.inl p2), some (.inl p3), none]) (st' := [.inl (-2)]) (σ' := σ) 1 rfl ?_
            exact zX_ret rfl rfl (h7 a4 a5 a6 a7 a8 a9)
-- X10_salt
theorem zm_123 {d : Nat} {σ : zS} {Q : Option zV → zS → Prop} {p1 : Int} {p2 : Int}
    (o1 : ¬ p1 < 0 → ¬ 7 ≤ p1 → ¬ p2 < 0 → p2 ≤ 99 → (0 : Int) ≤ p1 ∧ p1 < (7 : Int))
    (o2 : ¬ p1 < 0 → ¬ 7 ≤ p1 → ¬ p2 < 0 → p2 ≤ 99 → (0 : Int) ≤ p1 ∧ p1 < (7 : Int))
    (h1 : p1 < 0 → Q (some (.inl (-2))) σ)
    (h2 : ¬ p1 < 0 → 7 ≤ p1 → Q (some (.inl (-2))) σ)
    (h3 : ¬ p1 < 0 → ¬ 7 ≤ p1 → p2 < 0 → Q (some (.inl (-2))) σ)
    (h4 : ¬ p1 < 0 → ¬ 7 ≤ p1 → ¬ p2 < 0 → p2 ≤ 99 → Q (some (.inl (σ.1 48 0 (p1.toNat)))) (zU σ 48 0 (p1.toNat) p2))
    (h5 : ¬ p1 < 0 → ¬ 7 ≤ p1 → ¬ p2 < 0 → ¬ p2 ≤ 99 → Q (some (.inl (-2))) σ) :
    zM (d + 1) 123 [.inr (.inr (10, 0)), .inl p1, .inl p2] σ Q := by
  refine zX_run (n' := 1) (ls' := [some (.inr (.inr (10, 0))), some (.inl p1), some (.inl p2), none]) (st' := [.inl p1]) (σ' := σ) 1 rfl ?_
  refine zX_call rfl rfl ?_
  refine zm_119 (fun a1 => ?_) (fun a2 a3 => ?_) (fun a4 a5 => ?_)
  · skip
    refine zX_run (n' := 9) (ls' := [some (.inr (.inr (10, 0))), some (.inl p1), some (.inl p2), none]) (st' := [.inl (-2)]) (σ' := σ) 2 rfl ?_
    exact zX_ret rfl rfl (h1 a1)
  · skip
    refine zX_run (n' := 9) (ls' := [some (.inr (.inr (10, 0))), some (.inl p1), some (.inl p2), none]) (st' := [.inl (-2)]) (σ' := σ) 2 rfl ?_
    exact zX_ret rfl rfl (h2 a2 a3)
  · skip
    refine zX_run (n' := 4) (ls' := [some (.inr (.inr (10, 0))), some (.inl p1), some (.inl p2), none]) (st' := [.inl p2]) (σ' := σ) 2 rfl ?_
    refine zX_i2 rfl (fun a6 => ?_) (fun a6 => ?_)
    · skip
      refine zX_run (n' := 9) (ls' := [some (.inr (.inr (10, 0))), some (.inl p1), some (.inl p2), none]) (st' := [.inl (-2)]) (σ' := σ) 1 rfl ?_
      exact zX_ret rfl rfl (h3 a4 a5 a6)
    · skip
      refine zX_run (n' := 7) (ls' := [some (.inr (.inr (10, 0))), some (.inl p1), some (.inl p2), none]) (st' := [.inl 99, .inl p2]) (σ' := σ) 2 rfl ?_
      refine zX_c5 rfl (fun a7 => ?_) (fun a7 => ?_)
      · skip
        refine zX_run (n' := 13) (ls' := [some (.inr (.inr (10, 0))), some (.inl p1), some (.inl p2), none]) (st' := [.inl p1, .inr (.inr (48, 0))]) (σ' := σ) 3 rfl ?_
        refine zX_ald1 (L := 7) rfl (by decide) rfl (o1 a4 a5 a6 a7) ?_
        refine zX_run (n' := 19) (ls' := [some (.inr (.inr (10, 0))), some (.inl p1), some (.inl p2), some (.inl (σ.1 48 0 (p1.toNat)))]) (st' := [.inl p2, .inl p1, .inr (.inr (48, 0))]) (σ' := σ) 5 rfl ?_
        refine zX_ast1 (L := 7) rfl (by decide) rfl (o2 a4 a5 a6 a7) ?_
        refine zX_run (n' := 21) (ls' := [some (.inr (.inr (10, 0))), some (.inl p1), some (.inl p2), some (.inl (σ.1 48 0 (p1.toNat)))]) (st' := [.inl (σ.1 48 0 (p1.toNat))]) (σ' := (zU σ 48 0 (p1.toNat) p2)) 1 rfl ?_
        exact zX_ret rfl rfl (h4 a4 a5 a6 a7)
      · skip
        refine zX_run (n' := 9) (ls' := [some (.inr (.inr (10, 0))), some (.inl p1), some (.inl p2), none]) (st' := [.inl (-2)]) (σ' := σ) 1 rfl ?_
        exact zX_ret rfl rfl (h5 a4 a5 a6 a7)
-- X10_flood
theorem zm_124 {d : Nat} {σ : zS} {Q : Option zV → zS → Prop} {p1 : Int} {p2 : Int} {p3 : Int}
    (o1 : ¬ p1 < 0 → ¬ 7 ≤ p1 → ¬ p2 < 0 → ¬ 96 ≤ p2 → ¬ p3 < (-9999) → p3 ≤ 9999 → ¬ σ.1 10 0 2 = 24 → (0 : Int) ≤ σ.1 10 0 2 ∧ σ.1 10 0 2 < (24 : Int))
    (o2 : ¬ p1 < 0 → ¬ 7 ≤ p1 → ¬ p2 < 0 → ¬ 96 ≤ p2 → ¬ p3 < (-9999) → p3 ≤ 9999 → ¬ σ.1 10 0 2 = 24 → (0 : Int) ≤ σ.1 10 0 2 ∧ σ.1 10 0 2 < (24 : Int))
    (o3 : ¬ p1 < 0 → ¬ 7 ≤ p1 → ¬ p2 < 0 → ¬ 96 ≤ p2 → ¬ p3 < (-9999) → p3 ≤ 9999 → ¬ σ.1 10 0 2 = 24 → (0 : Int) ≤ σ.1 10 0 2 ∧ σ.1 10 0 2 < (24 : Int))
    (h1 : p1 < 0 → Q (some (.inl (-2))) σ)
    (h2 : ¬ p1 < 0 → 7 ≤ p1 → Q (some (.inl (-2))) σ)
    (h3 : ¬ p1 < 0 → ¬ 7 ≤ p1 → p2 < 0 → Q (some (.inl (-2))) σ)
    (h4 : ¬ p1 < 0 → ¬ 7 ≤ p1 → ¬ p2 < 0 → 96 ≤ p2 → Q (some (.inl (-2))) σ)
    (h5 : ¬ p1 < 0 → ¬ 7 ≤ p1 → ¬ p2 < 0 → ¬ 96 ≤ p2 → p3 < (-9999) → Q (some (.inl (-2))) σ)
    (h6 : ¬ p1 < 0 → ¬ 7 ≤ p1 → ¬ p2 < 0 → ¬ 96 ≤ p2 → ¬ p3 < (-9999) → p3 ≤ 9999 → ¬ σ.1 10 0 2 = 24 → Q (some (.inl (σ.1 10 0 2))) (zU (zU (zU (zU σ 49 0 ((σ.1 10 0 2).toNat) p1) 50 0 ((σ.1 10 0 2).toNat) p2) 51 0 ((σ.1 10 0 2).toNat) p3) 10 0 2 (zW ((σ.1 10 0 2) + 1))))
    (h7 : ¬ p1 < 0 → ¬ 7 ≤ p1 → ¬ p2 < 0 → ¬ 96 ≤ p2 → ¬ p3 < (-9999) → p3 ≤ 9999 → σ.1 10 0 2 = 24 → Q (some (.inl (-4))) σ)
    (h8 : ¬ p1 < 0 → ¬ 7 ≤ p1 → ¬ p2 < 0 → ¬ 96 ≤ p2 → ¬ p3 < (-9999) → ¬ p3 ≤ 9999 → Q (some (.inl (-2))) σ) :
    zM (d + 1) 124 [.inr (.inr (10, 0)), .inl p1, .inl p2, .inl p3] σ Q := by
  refine zX_run (n' := 1) (ls' := [some (.inr (.inr (10, 0))), some (.inl p1), some (.inl p2), some (.inl p3)]) (st' := [.inl p1]) (σ' := σ) 1 rfl ?_
  refine zX_call rfl rfl ?_
  refine zm_119 (fun a1 => ?_) (fun a2 a3 => ?_) (fun a4 a5 => ?_)
  · skip
    refine zX_run (n' := 13) (ls' := [some (.inr (.inr (10, 0))), some (.inl p1), some (.inl p2), some (.inl p3)]) (st' := [.inl (-2)]) (σ' := σ) 2 rfl ?_
    exact zX_ret rfl rfl (h1 a1)
  · skip
    refine zX_run (n' := 13) (ls' := [some (.inr (.inr (10, 0))), some (.inl p1), some (.inl p2), some (.inl p3)]) (st' := [.inl (-2)]) (σ' := σ) 2 rfl ?_
    exact zX_ret rfl rfl (h2 a2 a3)
  · skip
    refine zX_run (n' := 4) (ls' := [some (.inr (.inr (10, 0))), some (.inl p1), some (.inl p2), some (.inl p3)]) (st' := [.inl p2]) (σ' := σ) 2 rfl ?_
    refine zX_call rfl rfl ?_
    refine zm_120 (fun a6 => ?_) (fun a7 a8 => ?_) (fun a9 a10 => ?_)
    · skip
      refine zX_run (n' := 13) (ls' := [some (.inr (.inr (10, 0))), some (.inl p1), some (.inl p2), some (.inl p3)]) (st' := [.inl (-2)]) (σ' := σ) 2 rfl ?_
      exact zX_ret rfl rfl (h3 a4 a5 a6)
    · skip
      refine zX_run (n' := 13) (ls' := [some (.inr (.inr (10, 0))), some (.inl p1), some (.inl p2), some (.inl p3)]) (st' := [.inl (-2)]) (σ' := σ) 2 rfl ?_
      exact zX_ret rfl rfl (h4 a4 a5 a7 a8)
    · skip
      refine zX_run (n' := 8) (ls' := [some (.inr (.inr (10, 0))), some (.inl p1), some (.inl p2), some (.inl p3)]) (st' := [.inl (-9999), .inl p3]) (σ' := σ) 3 rfl ?_
      refine zX_c2 rfl (fun a11 => ?_) (fun a11 => ?_)
      · skip
        refine zX_run (n' := 13) (ls' := [some (.inr (.inr (10, 0))), some (.inl p1), some (.inl p2), some (.inl p3)]) (st' := [.inl (-2)]) (σ' := σ) 1 rfl ?_
        exact zX_ret rfl rfl (h5 a4 a5 a9 a10 a11)
      · skip
        refine zX_run (n' := 11) (ls' := [some (.inr (.inr (10, 0))), some (.inl p1), some (.inl p2), some (.inl p3)]) (st' := [.inl 9999, .inl p3]) (σ' := σ) 2 rfl ?_
        refine zX_c5 rfl (fun a12 => ?_) (fun a12 => ?_)
        · skip
          refine zX_run (n' := 17) (ls' := [some (.inr (.inr (10, 0))), some (.inl p1), some (.inl p2), some (.inl p3)]) (st' := [.inl 24, .inl (σ.1 10 0 2)]) (σ' := σ) 3 rfl ?_
          refine zX_c1 rfl (fun a13 => ?_) (fun a13 => ?_)
          · skip
            refine zX_run (n' := 25) (ls' := [some (.inr (.inr (10, 0))), some (.inl p1), some (.inl p2), some (.inl p3)]) (st' := [.inl p1, .inl (σ.1 10 0 2), .inr (.inr (49, 0))]) (σ' := σ) 5 rfl ?_
            refine zX_ast1 (L := 24) rfl (by decide) rfl (o1 a4 a5 a9 a10 a11 a12 a13) ?_
            refine zX_run (n' := 31) (ls' := [some (.inr (.inr (10, 0))), some (.inl p1), some (.inl p2), some (.inl p3)]) (st' := [.inl p2, .inl (σ.1 10 0 2), .inr (.inr (50, 0))]) (σ' := (zU σ 49 0 ((σ.1 10 0 2).toNat) p1)) 5 rfl ?_
            refine zX_ast1 (L := 24) rfl (by decide) rfl (o2 a4 a5 a9 a10 a11 a12 a13) ?_
            refine zX_run (n' := 37) (ls' := [some (.inr (.inr (10, 0))), some (.inl p1), some (.inl p2), some (.inl p3)]) (st' := [.inl p3, .inl (σ.1 10 0 2), .inr (.inr (51, 0))]) (σ' := (zU (zU σ 49 0 ((σ.1 10 0 2).toNat) p1) 50 0 ((σ.1 10 0 2).toNat) p2)) 5 rfl ?_
            refine zX_ast1 (L := 24) rfl (by decide) rfl (o3 a4 a5 a9 a10 a11 a12 a13) ?_
            refine zX_run (n' := 45) (ls' := [some (.inr (.inr (10, 0))), some (.inl p1), some (.inl p2), some (.inl p3)]) (st' := [.inl (σ.1 10 0 2)]) (σ' := (zU (zU (zU (zU σ 49 0 ((σ.1 10 0 2).toNat) p1) 50 0 ((σ.1 10 0 2).toNat) p2) 51 0 ((σ.1 10 0 2).toNat) p3) 10 0 2 (zW ((σ.1 10 0 2) + 1)))) 7 rfl ?_
            exact zX_ret rfl rfl (h6 a4 a5 a9 a10 a11 a12 a13)
          · skip
            refine zX_run (n' := 19) (ls' := [some (.inr (.inr (10, 0))), some (.inl p1), some (.inl p2), some (.inl p3)]) (st' := [.inl (-4)]) (σ' := σ) 1 rfl ?_
            exact zX_ret rfl rfl (h7 a4 a5 a9 a10 a11 a12 a13)
        · skip
          refine zX_run (n' := 13) (ls' := [some (.inr (.inr (10, 0))), some (.inl p1), some (.inl p2), some (.inl p3)]) (st' := [.inl (-2)]) (σ' := σ) 1 rfl ?_
          exact zX_ret rfl rfl (h8 a4 a5 a9 a10 a11 a12)
-- X10_gauge
theorem zm_125 {d : Nat} {σ : zS} {Q : Option zV → zS → Prop} {p1 : Int} {p2 : Int} {p3 : Int}
    (o1 : ¬ p1 < 0 → ¬ 7 ≤ p1 → ¬ p2 < 0 → ¬ 96 ≤ p2 → ¬ p3 < 0 → p3 ≤ 99999 → ¬ σ.1 10 0 3 = 40 → (0 : Int) ≤ σ.1 10 0 3 ∧ σ.1 10 0 3 < (40 : Int))
    (o2 : ¬ p1 < 0 → ¬ 7 ≤ p1 → ¬ p2 < 0 → ¬ 96 ≤ p2 → ¬ p3 < 0 → p3 ≤ 99999 → ¬ σ.1 10 0 3 = 40 → (0 : Int) ≤ σ.1 10 0 3 ∧ σ.1 10 0 3 < (40 : Int))
    (o3 : ¬ p1 < 0 → ¬ 7 ≤ p1 → ¬ p2 < 0 → ¬ 96 ≤ p2 → ¬ p3 < 0 → p3 ≤ 99999 → ¬ σ.1 10 0 3 = 40 → (0 : Int) ≤ σ.1 10 0 3 ∧ σ.1 10 0 3 < (40 : Int))
    (h1 : p1 < 0 → Q (some (.inl (-2))) σ)
    (h2 : ¬ p1 < 0 → 7 ≤ p1 → Q (some (.inl (-2))) σ)
    (h3 : ¬ p1 < 0 → ¬ 7 ≤ p1 → p2 < 0 → Q (some (.inl (-2))) σ)
    (h4 : ¬ p1 < 0 → ¬ 7 ≤ p1 → ¬ p2 < 0 → 96 ≤ p2 → Q (some (.inl (-2))) σ)
    (h5 : ¬ p1 < 0 → ¬ 7 ≤ p1 → ¬ p2 < 0 → ¬ 96 ≤ p2 → p3 < 0 → Q (some (.inl (-2))) σ)
    (h6 : ¬ p1 < 0 → ¬ 7 ≤ p1 → ¬ p2 < 0 → ¬ 96 ≤ p2 → ¬ p3 < 0 → p3 ≤ 99999 → ¬ σ.1 10 0 3 = 40 → Q (some (.inl (σ.1 10 0 3))) (zU (zU (zU (zU σ 52 0 ((σ.1 10 0 3).toNat) p1) 53 0 ((σ.1 10 0 3).toNat) p2) 54 0 ((σ.1 10 0 3).toNat) p3) 10 0 3 (zW ((σ.1 10 0 3) + 1))))
    (h7 : ¬ p1 < 0 → ¬ 7 ≤ p1 → ¬ p2 < 0 → ¬ 96 ≤ p2 → ¬ p3 < 0 → p3 ≤ 99999 → σ.1 10 0 3 = 40 → Q (some (.inl (-4))) σ)
    (h8 : ¬ p1 < 0 → ¬ 7 ≤ p1 → ¬ p2 < 0 → ¬ 96 ≤ p2 → ¬ p3 < 0 → ¬ p3 ≤ 99999 → Q (some (.inl (-2))) σ) :
    zM (d + 1) 125 [.inr (.inr (10, 0)), .inl p1, .inl p2, .inl p3] σ Q := by
  refine zX_run (n' := 1) (ls' := [some (.inr (.inr (10, 0))), some (.inl p1), some (.inl p2), some (.inl p3)]) (st' := [.inl p1]) (σ' := σ) 1 rfl ?_
  refine zX_call rfl rfl ?_
  refine zm_119 (fun a1 => ?_) (fun a2 a3 => ?_) (fun a4 a5 => ?_)
  · skip
    refine zX_run (n' := 12) (ls' := [some (.inr (.inr (10, 0))), some (.inl p1), some (.inl p2), some (.inl p3)]) (st' := [.inl (-2)]) (σ' := σ) 2 rfl ?_
    exact zX_ret rfl rfl (h1 a1)
  · skip
    refine zX_run (n' := 12) (ls' := [some (.inr (.inr (10, 0))), some (.inl p1), some (.inl p2), some (.inl p3)]) (st' := [.inl (-2)]) (σ' := σ) 2 rfl ?_
    exact zX_ret rfl rfl (h2 a2 a3)
  · skip
    refine zX_run (n' := 4) (ls' := [some (.inr (.inr (10, 0))), some (.inl p1), some (.inl p2), some (.inl p3)]) (st' := [.inl p2]) (σ' := σ) 2 rfl ?_
    refine zX_call rfl rfl ?_
    refine zm_120 (fun a6 => ?_) (fun a7 a8 => ?_) (fun a9 a10 => ?_)
    · skip
      refine zX_run (n' := 12) (ls' := [some (.inr (.inr (10, 0))), some (.inl p1), some (.inl p2), some (.inl p3)]) (st' := [.inl (-2)]) (σ' := σ) 2 rfl ?_
      exact zX_ret rfl rfl (h3 a4 a5 a6)
    · skip
      refine zX_run (n' := 12) (ls' := [some (.inr (.inr (10, 0))), some (.inl p1), some (.inl p2), some (.inl p3)]) (st' := [.inl (-2)]) (σ' := σ) 2 rfl ?_
      exact zX_ret rfl rfl (h4 a4 a5 a7 a8)
    · skip
      refine zX_run (n' := 7) (ls' := [some (.inr (.inr (10, 0))), some (.inl p1), some (.inl p2), some (.inl p3)]) (st' := [.inl p3]) (σ' := σ) 2 rfl ?_
      refine zX_i2 rfl (fun a11 => ?_) (fun a11 => ?_)
      · skip
        refine zX_run (n' := 12) (ls' := [some (.inr (.inr (10, 0))), some (.inl p1), some (.inl p2), some (.inl p3)]) (st' := [.inl (-2)]) (σ' := σ) 1 rfl ?_
        exact zX_ret rfl rfl (h5 a4 a5 a9 a10 a11)
      · skip
        refine zX_run (n' := 10) (ls' := [some (.inr (.inr (10, 0))), some (.inl p1), some (.inl p2), some (.inl p3)]) (st' := [.inl 99999, .inl p3]) (σ' := σ) 2 rfl ?_
        refine zX_c5 rfl (fun a12 => ?_) (fun a12 => ?_)
        · skip
          refine zX_run (n' := 16) (ls' := [some (.inr (.inr (10, 0))), some (.inl p1), some (.inl p2), some (.inl p3)]) (st' := [.inl 40, .inl (σ.1 10 0 3)]) (σ' := σ) 3 rfl ?_
          refine zX_c1 rfl (fun a13 => ?_) (fun a13 => ?_)
          · skip
            refine zX_run (n' := 24) (ls' := [some (.inr (.inr (10, 0))), some (.inl p1), some (.inl p2), some (.inl p3)]) (st' := [.inl p1, .inl (σ.1 10 0 3), .inr (.inr (52, 0))]) (σ' := σ) 5 rfl ?_
            refine zX_ast1 (L := 40) rfl (by decide) rfl (o1 a4 a5 a9 a10 a11 a12 a13) ?_
            refine zX_run (n' := 30) (ls' := [some (.inr (.inr (10, 0))), some (.inl p1), some (.inl p2), some (.inl p3)]) (st' := [.inl p2, .inl (σ.1 10 0 3), .inr (.inr (53, 0))]) (σ' := (zU σ 52 0 ((σ.1 10 0 3).toNat) p1)) 5 rfl ?_
            refine zX_ast1 (L := 40) rfl (by decide) rfl (o2 a4 a5 a9 a10 a11 a12 a13) ?_
            refine zX_run (n' := 36) (ls' := [some (.inr (.inr (10, 0))), some (.inl p1), some (.inl p2), some (.inl p3)]) (st' := [.inl p3, .inl (σ.1 10 0 3), .inr (.inr (54, 0))]) (σ' := (zU (zU σ 52 0 ((σ.1 10 0 3).toNat) p1) 53 0 ((σ.1 10 0 3).toNat) p2)) 5 rfl ?_
            refine zX_ast1 (L := 40) rfl (by decide) rfl (o3 a4 a5 a9 a10 a11 a12 a13) ?_
            refine zX_run (n' := 44) (ls' := [some (.inr (.inr (10, 0))), some (.inl p1), some (.inl p2), some (.inl p3)]) (st' := [.inl (σ.1 10 0 3)]) (σ' := (zU (zU (zU (zU σ 52 0 ((σ.1 10 0 3).toNat) p1) 53 0 ((σ.1 10 0 3).toNat) p2) 54 0 ((σ.1 10 0 3).toNat) p3) 10 0 3 (zW ((σ.1 10 0 3) + 1)))) 7 rfl ?_
            exact zX_ret rfl rfl (h6 a4 a5 a9 a10 a11 a12 a13)
          · skip
            refine zX_run (n' := 18) (ls' := [some (.inr (.inr (10, 0))), some (.inl p1), some (.inl p2), some (.inl p3)]) (st' := [.inl (-4)]) (σ' := σ) 1 rfl ?_
            exact zX_ret rfl rfl (h7 a4 a5 a9 a10 a11 a12 a13)
        · skip
          refine zX_run (n' := 12) (ls' := [some (.inr (.inr (10, 0))), some (.inl p1), some (.inl p2), some (.inl p3)]) (st' := [.inl (-2)]) (σ' := σ) 1 rfl ?_
          exact zX_ret rfl rfl (h8 a4 a5 a9 a10 a11 a12)
-- X10_lake
theorem zm_128 {d : Nat} {σ : zS} {Q : Option zV → zS → Prop} {p1 : Int} {p2 : Int} {p3 : Int} {p4 : Int} {p5 : Int}
    (o1 : ¬ p1 < 0 → ¬ 7 ≤ p1 → ¬ p2 < 0 → ¬ 99999 < p2 → ¬ p3 < 0 → ¬ p2 < p3 → ¬ p4 < 0 → ¬ 99 < p4 → ¬ p5 < 0 → p5 ≤ 9999 → (0 : Int) ≤ p1 ∧ p1 < (7 : Int))
    (o2 : ¬ p1 < 0 → ¬ 7 ≤ p1 → ¬ p2 < 0 → ¬ 99999 < p2 → ¬ p3 < 0 → ¬ p2 < p3 → ¬ p4 < 0 → ¬ 99 < p4 → ¬ p5 < 0 → p5 ≤ 9999 → σ.1 55 0 (p1.toNat) = 0 → (0 : Int) ≤ p1 ∧ p1 < (7 : Int))
    (o3 : ¬ p1 < 0 → ¬ 7 ≤ p1 → ¬ p2 < 0 → ¬ 99999 < p2 → ¬ p3 < 0 → ¬ p2 < p3 → ¬ p4 < 0 → ¬ 99 < p4 → ¬ p5 < 0 → p5 ≤ 9999 → σ.1 55 0 (p1.toNat) = 0 → (1 : Int) = 0 ∨ (1 : Int) = 1)
    (o4 : ¬ p1 < 0 → ¬ 7 ≤ p1 → ¬ p2 < 0 → ¬ 99999 < p2 → ¬ p3 < 0 → ¬ p2 < p3 → ¬ p4 < 0 → ¬ 99 < p4 → ¬ p5 < 0 → p5 ≤ 9999 → σ.1 55 0 (p1.toNat) = 0 → (0 : Int) ≤ p1 ∧ p1 < (7 : Int))
    (o5 : ¬ p1 < 0 → ¬ 7 ≤ p1 → ¬ p2 < 0 → ¬ 99999 < p2 → ¬ p3 < 0 → ¬ p2 < p3 → ¬ p4 < 0 → ¬ 99 < p4 → ¬ p5 < 0 → p5 ≤ 9999 → σ.1 55 0 (p1.toNat) = 0 → (0 : Int) ≤ p1 ∧ p1 < (7 : Int))
    (o6 : ¬ p1 < 0 → ¬ 7 ≤ p1 → ¬ p2 < 0 → ¬ 99999 < p2 → ¬ p3 < 0 → ¬ p2 < p3 → ¬ p4 < 0 → ¬ 99 < p4 → ¬ p5 < 0 → p5 ≤ 9999 → σ.1 55 0 (p1.toNat) = 0 → (0 : Int) ≤ p1 ∧ p1 < (7 : Int))
    (o7 : ¬ p1 < 0 → ¬ 7 ≤ p1 → ¬ p2 < 0 → ¬ 99999 < p2 → ¬ p3 < 0 → ¬ p2 < p3 → ¬ p4 < 0 → ¬ 99 < p4 → ¬ p5 < 0 → p5 ≤ 9999 → σ.1 55 0 (p1.toNat) = 0 → (0 : Int) ≤ p1 ∧ p1 < (7 : Int))
    (o8 : ¬ p1 < 0 → ¬ 7 ≤ p1 → ¬ p2 < 0 → ¬ 99999 < p2 → ¬ p3 < 0 → ¬ p2 < p3 → ¬ p4 < 0 → ¬ 99 < p4 → ¬ p5 < 0 → p5 ≤ 9999 → ¬ σ.1 55 0 (p1.toNat) = 0 → (0 : Int) ≤ p1 ∧ p1 < (7 : Int))
    (o9 : ¬ p1 < 0 → ¬ 7 ≤ p1 → ¬ p2 < 0 → ¬ 99999 < p2 → ¬ p3 < 0 → ¬ p2 < p3 → ¬ p4 < 0 → ¬ 99 < p4 → ¬ p5 < 0 → p5 ≤ 9999 → ¬ σ.1 55 0 (p1.toNat) = 0 → (1 : Int) = 0 ∨ (1 : Int) = 1)
    (o10 : ¬ p1 < 0 → ¬ 7 ≤ p1 → ¬ p2 < 0 → ¬ 99999 < p2 → ¬ p3 < 0 → ¬ p2 < p3 → ¬ p4 < 0 → ¬ 99 < p4 → ¬ p5 < 0 → p5 ≤ 9999 → ¬ σ.1 55 0 (p1.toNat) = 0 → (0 : Int) ≤ p1 ∧ p1 < (7 : Int))
    (o11 : ¬ p1 < 0 → ¬ 7 ≤ p1 → ¬ p2 < 0 → ¬ 99999 < p2 → ¬ p3 < 0 → ¬ p2 < p3 → ¬ p4 < 0 → ¬ 99 < p4 → ¬ p5 < 0 → p5 ≤ 9999 → ¬ σ.1 55 0 (p1.toNat) = 0 → (0 : Int) ≤ p1 ∧ p1 < (7 : Int))
    (o12 : ¬ p1 < 0 → ¬ 7 ≤ p1 → ¬ p2 < 0 → ¬ 99999 < p2 → ¬ p3 < 0 → ¬ p2 < p3 → ¬ p4 < 0 → ¬ 99 < p4 → ¬ p5 < 0 → p5 ≤ 9999 → ¬ σ.1 55 0 (p1.toNat) = 0 → (0 : Int) ≤ p1 ∧ p1 < (7 : Int))
    (o13 : ¬ p1 < 0 → ¬ 7 ≤ p1 → ¬ p2 < 0 → ¬ 99999 < p2 → ¬ p3 < 0 → ¬ p2 < p3 → ¬ p4 < 0 → ¬ 99 < p4 → ¬ p5 < 0 → p5 ≤ 9999 → ¬ σ.1 55 0 (p1.toNat) = 0 → (0 : Int) ≤ p1 ∧ p1 < (7 : Int))
    (h1 : p1 < 0 → Q (some (.inl (-2))) σ)
    (h2 : ¬ p1 < 0 → 7 ≤ p1 → Q (some (.inl (-2))) σ)
    (h3 : ¬ p1 < 0 → ¬ 7 ≤ p1 → p2 < 0 → Q (some (.inl (-2))) σ)
    (h4 : ¬ p1 < 0 → ¬ 7 ≤ p1 → ¬ p2 < 0 → 99999 < p2 → Q (some (.inl (-2))) σ)
    (h5 : ¬ p1 < 0 → ¬ 7 ≤ p1 → ¬ p2 < 0 → ¬ 99999 < p2 → p3 < 0 → Q (some (.inl (-2))) σ)
    (h6 : ¬ p1 < 0 → ¬ 7 ≤ p1 → ¬ p2 < 0 → ¬ 99999 < p2 → ¬ p3 < 0 → p2 < p3 → Q (some (.inl (-2))) σ)
    (h7 : ¬ p1 < 0 → ¬ 7 ≤ p1 → ¬ p2 < 0 → ¬ 99999 < p2 → ¬ p3 < 0 → ¬ p2 < p3 → p4 < 0 → Q (some (.inl (-2))) σ)
    (h8 : ¬ p1 < 0 → ¬ 7 ≤ p1 → ¬ p2 < 0 → ¬ 99999 < p2 → ¬ p3 < 0 → ¬ p2 < p3 → ¬ p4 < 0 → 99 < p4 → Q (some (.inl (-2))) σ)
    (h9 : ¬ p1 < 0 → ¬ 7 ≤ p1 → ¬ p2 < 0 → ¬ 99999 < p2 → ¬ p3 < 0 → ¬ p2 < p3 → ¬ p4 < 0 → ¬ 99 < p4 → p5 < 0 → Q (some (.inl (-2))) σ)
    (h10 : ¬ p1 < 0 → ¬ 7 ≤ p1 → ¬ p2 < 0 → ¬ 99999 < p2 → ¬ p3 < 0 → ¬ p2 < p3 → ¬ p4 < 0 → ¬ 99 < p4 → ¬ p5 < 0 → p5 ≤ 9999 → σ.1 55 0 (p1.toNat) = 0 → Q (some (.inl 1)) (zU (zU (zU (zU (zU σ 55 0 (p1.toNat) 1) 56 0 (p1.toNat) p2) 57 0 (p1.toNat) p3) 58 0 (p1.toNat) p4) 59 0 (p1.toNat) p5))
    (h11 : ¬ p1 < 0 → ¬ 7 ≤ p1 → ¬ p2 < 0 → ¬ 99999 < p2 → ¬ p3 < 0 → ¬ p2 < p3 → ¬ p4 < 0 → ¬ 99 < p4 → ¬ p5 < 0 → p5 ≤ 9999 → ¬ σ.1 55 0 (p1.toNat) = 0 → Q (some (.inl 0)) (zU (zU (zU (zU (zU σ 55 0 (p1.toNat) 1) 56 0 (p1.toNat) p2) 57 0 (p1.toNat) p3) 58 0 (p1.toNat) p4) 59 0 (p1.toNat) p5))
    (h12 : ¬ p1 < 0 → ¬ 7 ≤ p1 → ¬ p2 < 0 → ¬ 99999 < p2 → ¬ p3 < 0 → ¬ p2 < p3 → ¬ p4 < 0 → ¬ 99 < p4 → ¬ p5 < 0 → ¬ p5 ≤ 9999 → Q (some (.inl (-2))) σ) :
    zM (d + 1) 128 [.inr (.inr (10, 0)), .inl p1, .inl p2, .inl p3, .inl p4, .inl p5] σ Q := by
  refine zX_run (n' := 1) (ls' := [some (.inr (.inr (10, 0))), some (.inl p1), some (.inl p2), some (.inl p3), some (.inl p4), some (.inl p5), none]) (st' := [.inl p1]) (σ' := σ) 1 rfl ?_
  refine zX_call rfl rfl ?_
  refine zm_119 (fun a1 => ?_) (fun a2 a3 => ?_) (fun a4 a5 => ?_)
  · skip
    refine zX_run (n' := 24) (ls' := [some (.inr (.inr (10, 0))), some (.inl p1), some (.inl p2), some (.inl p3), some (.inl p4), some (.inl p5), none]) (st' := [.inl (-2)]) (σ' := σ) 2 rfl ?_
    exact zX_ret rfl rfl (h1 a1)
  · skip
    refine zX_run (n' := 24) (ls' := [some (.inr (.inr (10, 0))), some (.inl p1), some (.inl p2), some (.inl p3), some (.inl p4), some (.inl p5), none]) (st' := [.inl (-2)]) (σ' := σ) 2 rfl ?_
    exact zX_ret rfl rfl (h2 a2 a3)
  · skip
    refine zX_run (n' := 4) (ls' := [some (.inr (.inr (10, 0))), some (.inl p1), some (.inl p2), some (.inl p3), some (.inl p4), some (.inl p5), none]) (st' := [.inl p2]) (σ' := σ) 2 rfl ?_
    refine zX_i2 rfl (fun a6 => ?_) (fun a6 => ?_)
    · skip
      refine zX_run (n' := 24) (ls' := [some (.inr (.inr (10, 0))), some (.inl p1), some (.inl p2), some (.inl p3), some (.inl p4), some (.inl p5), none]) (st' := [.inl (-2)]) (σ' := σ) 1 rfl ?_
      exact zX_ret rfl rfl (h3 a4 a5 a6)
    · skip
      refine zX_run (n' := 7) (ls' := [some (.inr (.inr (10, 0))), some (.inl p1), some (.inl p2), some (.inl p3), some (.inl p4), some (.inl p5), none]) (st' := [.inl 99999, .inl p2]) (σ' := σ) 2 rfl ?_
      refine zX_c4 rfl (fun a7 => ?_) (fun a7 => ?_)
      · skip
        refine zX_run (n' := 24) (ls' := [some (.inr (.inr (10, 0))), some (.inl p1), some (.inl p2), some (.inl p3), some (.inl p4), some (.inl p5), none]) (st' := [.inl (-2)]) (σ' := σ) 1 rfl ?_
        exact zX_ret rfl rfl (h4 a4 a5 a6 a7)
      · skip
        refine zX_run (n' := 9) (ls' := [some (.inr (.inr (10, 0))), some (.inl p1), some (.inl p2), some (.inl p3), some (.inl p4), some (.inl p5), none]) (st' := [.inl p3]) (σ' := σ) 1 rfl ?_
        refine zX_i2 rfl (fun a8 => ?_) (fun a8 => ?_)
        · skip
          refine zX_run (n' := 24) (ls' := [some (.inr (.inr (10, 0))), some (.inl p1), some (.inl p2), some (.inl p3), some (.inl p4), some (.inl p5), none]) (st' := [.inl (-2)]) (σ' := σ) 1 rfl ?_
          exact zX_ret rfl rfl (h5 a4 a5 a6 a7 a8)
        · skip
          refine zX_run (n' := 12) (ls' := [some (.inr (.inr (10, 0))), some (.inl p1), some (.inl p2), some (.inl p3), some (.inl p4), some (.inl p5), none]) (st' := [.inl p2, .inl p3]) (σ' := σ) 2 rfl ?_
          refine zX_c4 rfl (fun a9 => ?_) (fun a9 => ?_)
          · skip
            refine zX_run (n' := 24) (ls' := [some (.inr (.inr (10, 0))), some (.inl p1), some (.inl p2), some (.inl p3), some (.inl p4), some (.inl p5), none]) (st' := [.inl (-2)]) (σ' := σ) 1 rfl ?_
            exact zX_ret rfl rfl (h6 a4 a5 a6 a7 a8 a9)
          · skip
            refine zX_run (n' := 14) (ls' := [some (.inr (.inr (10, 0))), some (.inl p1), some (.inl p2), some (.inl p3), some (.inl p4), some (.inl p5), none]) (st' := [.inl p4]) (σ' := σ) 1 rfl ?_
            refine zX_i2 rfl (fun a10 => ?_) (fun a10 => ?_)
            · skip
              refine zX_run (n' := 24) (ls' := [some (.inr (.inr (10, 0))), some (.inl p1), some (.inl p2), some (.inl p3), some (.inl p4), some (.inl p5), none]) (st' := [.inl (-2)]) (σ' := σ) 1 rfl ?_
              exact zX_ret rfl rfl (h7 a4 a5 a6 a7 a8 a9 a10)
            · skip
              refine zX_run (n' := 17) (ls' := [some (.inr (.inr (10, 0))), some (.inl p1), some (.inl p2), some (.inl p3), some (.inl p4), some (.inl p5), none]) (st' := [.inl 99, .inl p4]) (σ' := σ) 2 rfl ?_
              refine zX_c4 rfl (fun a11 => ?_) (fun a11 => ?_)
              · skip
                refine zX_run (n' := 24) (ls' := [some (.inr (.inr (10, 0))), some (.inl p1), some (.inl p2), some (.inl p3), some (.inl p4), some (.inl p5), none]) (st' := [.inl (-2)]) (σ' := σ) 1 rfl ?_
                exact zX_ret rfl rfl (h8 a4 a5 a6 a7 a8 a9 a10 a11)
              · skip
                refine zX_run (n' := 19) (ls' := [some (.inr (.inr (10, 0))), some (.inl p1), some (.inl p2), some (.inl p3), some (.inl p4), some (.inl p5), none]) (st' := [.inl p5]) (σ' := σ) 1 rfl ?_
                refine zX_i2 rfl (fun a12 => ?_) (fun a12 => ?_)
                · skip
                  refine zX_run (n' := 24) (ls' := [some (.inr (.inr (10, 0))), some (.inl p1), some (.inl p2), some (.inl p3), some (.inl p4), some (.inl p5), none]) (st' := [.inl (-2)]) (σ' := σ) 1 rfl ?_
                  exact zX_ret rfl rfl (h9 a4 a5 a6 a7 a8 a9 a10 a11 a12)
                · skip
                  refine zX_run (n' := 22) (ls' := [some (.inr (.inr (10, 0))), some (.inl p1), some (.inl p2), some (.inl p3), some (.inl p4), some (.inl p5), none]) (st' := [.inl 9999, .inl p5]) (σ' := σ) 2 rfl ?_
                  refine zX_c5 rfl (fun a13 => ?_) (fun a13 => ?_)
                  · skip
                    refine zX_run (n' := 28) (ls' := [some (.inr (.inr (10, 0))), some (.inl p1), some (.inl p2), some (.inl p3), some (.inl p4), some (.inl p5), none]) (st' := [.inl p1, .inr (.inr (55, 0))]) (σ' := σ) 3 rfl ?_
                    refine zX_ald4 (L := 7) rfl (by decide) rfl (o1 a4 a5 a6 a7 a8 a9 a10 a11 a12 a13) ?_
                    refine zX_i0 rfl (fun a14 => ?_) (fun a14 => ?_)
                    · skip
                      refine zX_run (n' := 38) (ls' := [some (.inr (.inr (10, 0))), some (.inl p1), some (.inl p2), some (.inl p3), some (.inl p4), some (.inl p5), some (.inl 1)]) (st' := [.inl 1, .inl p1, .inr (.inr (55, 0))]) (σ' := σ) 6 rfl ?_
                      refine zX_ast4 (L := 7) rfl (by decide) rfl (o2 a4 a5 a6 a7 a8 a9 a10 a11 a12 a13 a14) (o3 a4 a5 a6 a7 a8 a9 a10 a11 a12 a13 a14) ?_
                      refine zX_run (n' := 43) (ls' := [some (.inr (.inr (10, 0))), some (.inl p1), some (.inl p2), some (.inl p3), some (.inl p4), some (.inl p5), some (.inl 1)]) (st' := [.inl p2, .inl p1, .inr (.inr (56, 0))]) (σ' := (zU σ 55 0 (p1.toNat) 1)) 4 rfl ?_
                      refine zX_ast1 (L := 7) rfl (by decide) rfl (o4 a4 a5 a6 a7 a8 a9 a10 a11 a12 a13 a14) ?_
                      refine zX_run (n' := 48) (ls' := [some (.inr (.inr (10, 0))), some (.inl p1), some (.inl p2), some (.inl p3), some (.inl p4), some (.inl p5), some (.inl 1)]) (st' := [.inl p3, .inl p1, .inr (.inr (57, 0))]) (σ' := (zU (zU σ 55 0 (p1.toNat) 1) 56 0 (p1.toNat) p2)) 4 rfl ?_
                      refine zX_ast1 (L := 7) rfl (by decide) rfl (o5 a4 a5 a6 a7 a8 a9 a10 a11 a12 a13 a14) ?_
                      refine zX_run (n' := 53) (ls' := [some (.inr (.inr (10, 0))), some (.inl p1), some (.inl p2), some (.inl p3), some (.inl p4), some (.inl p5), some (.inl 1)]) (st' := [.inl p4, .inl p1, .inr (.inr (58, 0))]) (σ' := (zU (zU (zU σ 55 0 (p1.toNat) 1) 56 0 (p1.toNat) p2) 57 0 (p1.toNat) p3)) 4 rfl ?_
                      refine zX_ast1 (L := 7) rfl (by decide) rfl (o6 a4 a5 a6 a7 a8 a9 a10 a11 a12 a13 a14) ?_
                      refine zX_run (n' := 58) (ls' := [some (.inr (.inr (10, 0))), some (.inl p1), some (.inl p2), some (.inl p3), some (.inl p4), some (.inl p5), some (.inl 1)]) (st' := [.inl p5, .inl p1, .inr (.inr (59, 0))]) (σ' := (zU (zU (zU (zU σ 55 0 (p1.toNat) 1) 56 0 (p1.toNat) p2) 57 0 (p1.toNat) p3) 58 0 (p1.toNat) p4)) 4 rfl ?_
                      refine zX_ast1 (L := 7) rfl (by decide) rfl (o7 a4 a5 a6 a7 a8 a9 a10 a11 a12 a13 a14) ?_
                      refine zX_run (n' := 60) (ls' := [some (.inr (.inr (10, 0))), some (.inl p1), some (.inl p2), some (.inl p3), some (.inl p4), some (.inl p5), some (.inl 1)]) (st' := [.inl 1]) (σ' := (zU (zU (zU (zU (zU σ 55 0 (p1.toNat) 1) 56 0 (p1.toNat) p2) 57 0 (p1.toNat) p3) 58 0 (p1.toNat) p4) 59 0 (p1.toNat) p5)) 1 rfl ?_
                      exact zX_ret rfl rfl (h10 a4 a5 a6 a7 a8 a9 a10 a11 a12 a13 a14)
                    · skip
                      refine zX_run (n' := 38) (ls' := [some (.inr (.inr (10, 0))), some (.inl p1), some (.inl p2), some (.inl p3), some (.inl p4), some (.inl p5), some (.inl 0)]) (st' := [.inl 1, .inl p1, .inr (.inr (55, 0))]) (σ' := σ) 7 rfl ?_
                      refine zX_ast4 (L := 7) rfl (by decide) rfl (o8 a4 a5 a6 a7 a8 a9 a10 a11 a12 a13 a14) (o9 a4 a5 a6 a7 a8 a9 a10 a11 a12 a13 a14) ?_
                      refine zX_run (n' := 43) (ls' := [some (.inr (.inr (10, 0))), some (.inl p1), some (.inl p2), some (.inl p3), some (.inl p4), some (.inl p5), some (.inl 0)]) (st' := [.inl p2, .inl p1, .inr (.inr (56, 0))]) (σ' := (zU σ 55 0 (p1.toNat) 1)) 4 rfl ?_
                      refine zX_ast1 (L := 7) rfl (by decide) rfl (o10 a4 a5 a6 a7 a8 a9 a10 a11 a12 a13 a14) ?_
                      refine zX_run (n' := 48) (ls' := [some (.inr (.inr (10, 0))), some (.inl p1), some (.inl p2), some (.inl p3), some (.inl p4), some (.inl p5), some (.inl 0)]) (st' := [.inl p3, .inl p1, .inr (.inr (57, 0))]) (σ' := (zU (zU σ 55 0 (p1.toNat) 1) 56 0 (p1.toNat) p2)) 4 rfl ?_
                      refine zX_ast1 (L := 7) rfl (by decide) rfl (o11 a4 a5 a6 a7 a8 a9 a10 a11 a12 a13 a14) ?_
                      refine zX_run (n' := 53) (ls' := [some (.inr (.inr (10, 0))), some (.inl p1), some (.inl p2), some (.inl p3), some (.inl p4), some (.inl p5), some (.inl 0)]) (st' := [.inl p4, .inl p1, .inr (.inr (58, 0))]) (σ' := (zU (zU (zU σ 55 0 (p1.toNat) 1) 56 0 (p1.toNat) p2) 57 0 (p1.toNat) p3)) 4 rfl ?_
                      refine zX_ast1 (L := 7) rfl (by decide) rfl (o12 a4 a5 a6 a7 a8 a9 a10 a11 a12 a13 a14) ?_
                      refine zX_run (n' := 58) (ls' := [some (.inr (.inr (10, 0))), some (.inl p1), some (.inl p2), some (.inl p3), some (.inl p4), some (.inl p5), some (.inl 0)]) (st' := [.inl p5, .inl p1, .inr (.inr (59, 0))]) (σ' := (zU (zU (zU (zU σ 55 0 (p1.toNat) 1) 56 0 (p1.toNat) p2) 57 0 (p1.toNat) p3) 58 0 (p1.toNat) p4)) 4 rfl ?_
                      refine zX_ast1 (L := 7) rfl (by decide) rfl (o13 a4 a5 a6 a7 a8 a9 a10 a11 a12 a13 a14) ?_
                      refine zX_run (n' := 60) (ls' := [some (.inr (.inr (10, 0))), some (.inl p1), some (.inl p2), some (.inl p3), some (.inl p4), some (.inl p5), some (.inl 0)]) (st' := [.inl 0]) (σ' := (zU (zU (zU (zU (zU σ 55 0 (p1.toNat) 1) 56 0 (p1.toNat) p2) 57 0 (p1.toNat) p3) 58 0 (p1.toNat) p4) 59 0 (p1.toNat) p5)) 1 rfl ?_
                      exact zX_ret rfl rfl (h11 a4 a5 a6 a7 a8 a9 a10 a11 a12 a13 a14)
                  · skip
                    refine zX_run (n' := 24) (ls' := [some (.inr (.inr (10, 0))), some (.inl p1), some (.inl p2), some (.inl p3), some (.inl p4), some (.inl p5), none]) (st' := [.inl (-2)]) (σ' := σ) 1 rfl ?_
                    exact zX_ret rfl rfl (h12 a4 a5 a6 a7 a8 a9 a10 a11 a12 a13)
-- X10_release
theorem zm_129 {d : Nat} {σ : zS} {Q : Option zV → zS → Prop} {p1 : Int} {p2 : Int}
    (o1 : ¬ p1 < 0 → ¬ 7 ≤ p1 → ¬ p2 < 0 → p2 ≤ 9999 → (0 : Int) ≤ p1 ∧ p1 < (7 : Int))
    (o2 : ¬ p1 < 0 → ¬ 7 ≤ p1 → ¬ p2 < 0 → p2 ≤ 9999 → ¬ σ.1 55 0 (p1.toNat) = 0 → (0 : Int) ≤ p1 ∧ p1 < (7 : Int))
    (o3 : ¬ p1 < 0 → ¬ 7 ≤ p1 → ¬ p2 < 0 → p2 ≤ 9999 → ¬ σ.1 55 0 (p1.toNat) = 0 → (0 : Int) ≤ p1 ∧ p1 < (7 : Int))
    (h1 : p1 < 0 → Q (some (.inl (-2))) σ)
    (h2 : ¬ p1 < 0 → 7 ≤ p1 → Q (some (.inl (-2))) σ)
    (h3 : ¬ p1 < 0 → ¬ 7 ≤ p1 → p2 < 0 → Q (some (.inl (-2))) σ)
    (h4 : ¬ p1 < 0 → ¬ 7 ≤ p1 → ¬ p2 < 0 → p2 ≤ 9999 → ¬ σ.1 55 0 (p1.toNat) = 0 → Q (some (.inl (σ.1 59 0 (p1.toNat)))) (zU σ 59 0 (p1.toNat) p2))
    (h5 : ¬ p1 < 0 → ¬ 7 ≤ p1 → ¬ p2 < 0 → p2 ≤ 9999 → σ.1 55 0 (p1.toNat) = 0 → Q (some (.inl (-5))) σ)
    (h6 : ¬ p1 < 0 → ¬ 7 ≤ p1 → ¬ p2 < 0 → ¬ p2 ≤ 9999 → Q (some (.inl (-2))) σ) :
    zM (d + 1) 129 [.inr (.inr (10, 0)), .inl p1, .inl p2] σ Q := by
  refine zX_run (n' := 1) (ls' := [some (.inr (.inr (10, 0))), some (.inl p1), some (.inl p2), none]) (st' := [.inl p1]) (σ' := σ) 1 rfl ?_
  refine zX_call rfl rfl ?_
  refine zm_119 (fun a1 => ?_) (fun a2 a3 => ?_) (fun a4 a5 => ?_)
  · skip
    refine zX_run (n' := 9) (ls' := [some (.inr (.inr (10, 0))), some (.inl p1), some (.inl p2), none]) (st' := [.inl (-2)]) (σ' := σ) 2 rfl ?_
    exact zX_ret rfl rfl (h1 a1)
  · skip
    refine zX_run (n' := 9) (ls' := [some (.inr (.inr (10, 0))), some (.inl p1), some (.inl p2), none]) (st' := [.inl (-2)]) (σ' := σ) 2 rfl ?_
    exact zX_ret rfl rfl (h2 a2 a3)
  · skip
    refine zX_run (n' := 4) (ls' := [some (.inr (.inr (10, 0))), some (.inl p1), some (.inl p2), none]) (st' := [.inl p2]) (σ' := σ) 2 rfl ?_
    refine zX_i2 rfl (fun a6 => ?_) (fun a6 => ?_)
    · skip
      refine zX_run (n' := 9) (ls' := [some (.inr (.inr (10, 0))), some (.inl p1), some (.inl p2), none]) (st' := [.inl (-2)]) (σ' := σ) 1 rfl ?_
      exact zX_ret rfl rfl (h3 a4 a5 a6)
    · skip
      refine zX_run (n' := 7) (ls' := [some (.inr (.inr (10, 0))), some (.inl p1), some (.inl p2), none]) (st' := [.inl 9999, .inl p2]) (σ' := σ) 2 rfl ?_
      refine zX_c5 rfl (fun a7 => ?_) (fun a7 => ?_)
      · skip
        refine zX_run (n' := 13) (ls' := [some (.inr (.inr (10, 0))), some (.inl p1), some (.inl p2), none]) (st' := [.inl p1, .inr (.inr (55, 0))]) (σ' := σ) 3 rfl ?_
        refine zX_ald4 (L := 7) rfl (by decide) rfl (o1 a4 a5 a6 a7) ?_
        refine zX_i1 rfl (fun a8 => ?_) (fun a8 => ?_)
        · skip
          refine zX_run (n' := 20) (ls' := [some (.inr (.inr (10, 0))), some (.inl p1), some (.inl p2), none]) (st' := [.inl p1, .inr (.inr (59, 0))]) (σ' := σ) 3 rfl ?_
          refine zX_ald1 (L := 7) rfl (by decide) rfl (o2 a4 a5 a6 a7 a8) ?_
          refine zX_run (n' := 26) (ls' := [some (.inr (.inr (10, 0))), some (.inl p1), some (.inl p2), some (.inl (σ.1 59 0 (p1.toNat)))]) (st' := [.inl p2, .inl p1, .inr (.inr (59, 0))]) (σ' := σ) 5 rfl ?_
          refine zX_ast1 (L := 7) rfl (by decide) rfl (o3 a4 a5 a6 a7 a8) ?_
          refine zX_run (n' := 28) (ls' := [some (.inr (.inr (10, 0))), some (.inl p1), some (.inl p2), some (.inl (σ.1 59 0 (p1.toNat)))]) (st' := [.inl (σ.1 59 0 (p1.toNat))]) (σ' := (zU σ 59 0 (p1.toNat) p2)) 1 rfl ?_
          exact zX_ret rfl rfl (h4 a4 a5 a6 a7 a8)
        · skip
          refine zX_run (n' := 16) (ls' := [some (.inr (.inr (10, 0))), some (.inl p1), some (.inl p2), none]) (st' := [.inl (-5)]) (σ' := σ) 1 rfl ?_
          exact zX_ret rfl rfl (h5 a4 a5 a6 a7 a8)
      · skip
        refine zX_run (n' := 9) (ls' := [some (.inr (.inr (10, 0))), some (.inl p1), some (.inl p2), none]) (st' := [.inl (-2)]) (σ' := σ) 1 rfl ?_
        exact zX_ret rfl rfl (h6 a4 a5 a6 a7)
-- X10_isHold_
theorem zm_130 {d : Nat} {σ : zS} {Q : Option zV → zS → Prop} {p1 : Int} {p2 : Int} {p3 : Int} {p4 : Int} {p5 : Int}
    (h1 : p1 < 0 → Q (some (.inl 0)) σ)
    (h2 : ¬ p1 < 0 → 6 ≤ p1 → Q (some (.inl 0)) σ)
    (h3 : ¬ p1 < 0 → ¬ 6 ≤ p1 → p2 < 0 → Q (some (.inl 0)) σ)
    (h4 : ¬ p1 < 0 → ¬ 6 ≤ p1 → ¬ p2 < 0 → 4 ≤ p2 → Q (some (.inl 0)) σ)
    (h5 : ¬ p1 < 0 → ¬ 6 ≤ p1 → ¬ p2 < 0 → ¬ 4 ≤ p2 → p3 < 0 → Q (some (.inl 0)) σ)
    (h6 : ¬ p1 < 0 → ¬ 6 ≤ p1 → ¬ p2 < 0 → ¬ 4 ≤ p2 → ¬ p3 < 0 → 7 ≤ p3 → Q (some (.inl 0)) σ)
    (h7 : ¬ p1 < 0 → ¬ 6 ≤ p1 → ¬ p2 < 0 → ¬ 4 ≤ p2 → ¬ p3 < 0 → ¬ 7 ≤ p3 → p4 < 0 → Q (some (.inl 0)) σ)
    (h8 : ¬ p1 < 0 → ¬ 6 ≤ p1 → ¬ p2 < 0 → ¬ 4 ≤ p2 → ¬ p3 < 0 → ¬ 7 ≤ p3 → ¬ p4 < 0 → ¬ p1 = 2 → 9999 < p4 → Q (some (.inl 0)) σ)
    (h9 : ¬ p1 < 0 → ¬ 6 ≤ p1 → ¬ p2 < 0 → ¬ 4 ≤ p2 → ¬ p3 < 0 → ¬ 7 ≤ p3 → ¬ p4 < 0 → ¬ p1 = 2 → ¬ 9999 < p4 → p5 < 0 → Q (some (.inl 0)) σ)
    (h10 : ¬ p1 < 0 → ¬ 6 ≤ p1 → ¬ p2 < 0 → ¬ 4 ≤ p2 → ¬ p3 < 0 → ¬ 7 ≤ p3 → ¬ p4 < 0 → ¬ p1 = 2 → ¬ 9999 < p4 → ¬ p5 < 0 → 9999 < p5 → Q (some (.inl 0)) σ)
    (h11 : ¬ p1 < 0 → ¬ 6 ≤ p1 → ¬ p2 < 0 → ¬ 4 ≤ p2 → ¬ p3 < 0 → ¬ 7 ≤ p3 → ¬ p4 < 0 → ¬ p1 = 2 → ¬ 9999 < p4 → ¬ p5 < 0 → ¬ 9999 < p5 → Q (some (.inl 1)) σ)
    (h12 : ¬ p1 < 0 → ¬ 6 ≤ p1 → ¬ p2 < 0 → ¬ 4 ≤ p2 → ¬ p3 < 0 → ¬ 7 ≤ p3 → ¬ p4 < 0 → p1 = 2 → 100 < p4 → Q (some (.inl 0)) σ)
    (h13 : ¬ p1 < 0 → ¬ 6 ≤ p1 → ¬ p2 < 0 → ¬ 4 ≤ p2 → ¬ p3 < 0 → ¬ 7 ≤ p3 → ¬ p4 < 0 → p1 = 2 → ¬ 100 < p4 → p5 < 0 → Q (some (.inl 0)) σ)
    (h14 : ¬ p1 < 0 → ¬ 6 ≤ p1 → ¬ p2 < 0 → ¬ 4 ≤ p2 → ¬ p3 < 0 → ¬ 7 ≤ p3 → ¬ p4 < 0 → p1 = 2 → ¬ 100 < p4 → ¬ p5 < 0 → 9999 < p5 → Q (some (.inl 0)) σ)
    (h15 : ¬ p1 < 0 → ¬ 6 ≤ p1 → ¬ p2 < 0 → ¬ 4 ≤ p2 → ¬ p3 < 0 → ¬ 7 ≤ p3 → ¬ p4 < 0 → p1 = 2 → ¬ 100 < p4 → ¬ p5 < 0 → ¬ 9999 < p5 → Q (some (.inl 1)) σ) :
    zM (d + 1) 130 [.inl p1, .inl p2, .inl p3, .inl p4, .inl p5] σ Q := by
  refine zX_run (n' := 1) (ls' := [some (.inl p1), some (.inl p2), some (.inl p3), some (.inl p4), some (.inl p5)]) (st' := [.inl p1]) (σ' := σ) 1 rfl ?_
  refine zX_i2 rfl (fun a1 => ?_) (fun a1 => ?_)
  · skip
    refine zX_run (n' := 31) (ls' := [some (.inl p1), some (.inl p2), some (.inl p3), some (.inl p4), some (.inl p5)]) (st' := [.inl 0]) (σ' := σ) 1 rfl ?_
    exact zX_ret rfl rfl (h1 a1)
  · skip
    refine zX_run (n' := 4) (ls' := [some (.inl p1), some (.inl p2), some (.inl p3), some (.inl p4), some (.inl p5)]) (st' := [.inl 6, .inl p1]) (σ' := σ) 2 rfl ?_
    refine zX_c3 rfl (fun a2 => ?_) (fun a2 => ?_)
    · skip
      refine zX_run (n' := 31) (ls' := [some (.inl p1), some (.inl p2), some (.inl p3), some (.inl p4), some (.inl p5)]) (st' := [.inl 0]) (σ' := σ) 1 rfl ?_
      exact zX_ret rfl rfl (h2 a1 a2)
    · skip
      refine zX_run (n' := 6) (ls' := [some (.inl p1), some (.inl p2), some (.inl p3), some (.inl p4), some (.inl p5)]) (st' := [.inl p2]) (σ' := σ) 1 rfl ?_
      refine zX_i2 rfl (fun a3 => ?_) (fun a3 => ?_)
      · skip
        refine zX_run (n' := 31) (ls' := [some (.inl p1), some (.inl p2), some (.inl p3), some (.inl p4), some (.inl p5)]) (st' := [.inl 0]) (σ' := σ) 1 rfl ?_
        exact zX_ret rfl rfl (h3 a1 a2 a3)
      · skip
        refine zX_run (n' := 9) (ls' := [some (.inl p1), some (.inl p2), some (.inl p3), some (.inl p4), some (.inl p5)]) (st' := [.inl 4, .inl p2]) (σ' := σ) 2 rfl ?_
        refine zX_c3 rfl (fun a4 => ?_) (fun a4 => ?_)
        · skip
          refine zX_run (n' := 31) (ls' := [some (.inl p1), some (.inl p2), some (.inl p3), some (.inl p4), some (.inl p5)]) (st' := [.inl 0]) (σ' := σ) 1 rfl ?_
          exact zX_ret rfl rfl (h4 a1 a2 a3 a4)
        · skip
          refine zX_run (n' := 11) (ls' := [some (.inl p1), some (.inl p2), some (.inl p3), some (.inl p4), some (.inl p5)]) (st' := [.inl p3]) (σ' := σ) 1 rfl ?_
          refine zX_call rfl rfl ?_
          refine zm_119 (fun a5 => ?_) (fun a6 a7 => ?_) (fun a8 a9 => ?_)
          · skip
            refine zX_run (n' := 31) (ls' := [some (.inl p1), some (.inl p2), some (.inl p3), some (.inl p4), some (.inl p5)]) (st' := [.inl 0]) (σ' := σ) 2 rfl ?_
            exact zX_ret rfl rfl (h5 a1 a2 a3 a4 a5)
          · skip
            refine zX_run (n' := 31) (ls' := [some (.inl p1), some (.inl p2), some (.inl p3), some (.inl p4), some (.inl p5)]) (st' := [.inl 0]) (σ' := σ) 2 rfl ?_
            exact zX_ret rfl rfl (h6 a1 a2 a3 a4 a6 a7)
          · skip
            refine zX_run (n' := 14) (ls' := [some (.inl p1), some (.inl p2), some (.inl p3), some (.inl p4), some (.inl p5)]) (st' := [.inl p4]) (σ' := σ) 2 rfl ?_
            refine zX_i2 rfl (fun a10 => ?_) (fun a10 => ?_)
            · skip
              refine zX_run (n' := 31) (ls' := [some (.inl p1), some (.inl p2), some (.inl p3), some (.inl p4), some (.inl p5)]) (st' := [.inl 0]) (σ' := σ) 1 rfl ?_
              exact zX_ret rfl rfl (h7 a1 a2 a3 a4 a8 a9 a10)
            · skip
              refine zX_run (n' := 18) (ls' := [some (.inl p1), some (.inl p2), some (.inl p3), some (.inl p4), some (.inl p5)]) (st' := [.inl 2, .inl p1, .inl p4]) (σ' := σ) 3 rfl ?_
              refine zX_c1 rfl (fun a11 => ?_) (fun a11 => ?_)
              · skip
                refine zX_run (n' := 22) (ls' := [some (.inl p1), some (.inl p2), some (.inl p3), some (.inl p4), some (.inl p5)]) (st' := [.inl 9999, .inl p4]) (σ' := σ) 1 rfl ?_
                refine zX_c4 rfl (fun a12 => ?_) (fun a12 => ?_)
                · skip
                  refine zX_run (n' := 31) (ls' := [some (.inl p1), some (.inl p2), some (.inl p3), some (.inl p4), some (.inl p5)]) (st' := [.inl 0]) (σ' := σ) 1 rfl ?_
                  exact zX_ret rfl rfl (h8 a1 a2 a3 a4 a8 a9 a10 a11 a12)
                · skip
                  refine zX_run (n' := 24) (ls' := [some (.inl p1), some (.inl p2), some (.inl p3), some (.inl p4), some (.inl p5)]) (st' := [.inl p5]) (σ' := σ) 1 rfl ?_
                  refine zX_i2 rfl (fun a13 => ?_) (fun a13 => ?_)
                  · skip
                    refine zX_run (n' := 31) (ls' := [some (.inl p1), some (.inl p2), some (.inl p3), some (.inl p4), some (.inl p5)]) (st' := [.inl 0]) (σ' := σ) 1 rfl ?_
                    exact zX_ret rfl rfl (h9 a1 a2 a3 a4 a8 a9 a10 a11 a12 a13)
                  · skip
                    refine zX_run (n' := 27) (ls' := [some (.inl p1), some (.inl p2), some (.inl p3), some (.inl p4), some (.inl p5)]) (st' := [.inl 9999, .inl p5]) (σ' := σ) 2 rfl ?_
                    refine zX_c4 rfl (fun a14 => ?_) (fun a14 => ?_)
                    · skip
                      refine zX_run (n' := 31) (ls' := [some (.inl p1), some (.inl p2), some (.inl p3), some (.inl p4), some (.inl p5)]) (st' := [.inl 0]) (σ' := σ) 1 rfl ?_
                      exact zX_ret rfl rfl (h10 a1 a2 a3 a4 a8 a9 a10 a11 a12 a13 a14)
                    · skip
                      refine zX_run (n' := 31) (ls' := [some (.inl p1), some (.inl p2), some (.inl p3), some (.inl p4), some (.inl p5)]) (st' := [.inl 1]) (σ' := σ) 2 rfl ?_
                      exact zX_ret rfl rfl (h11 a1 a2 a3 a4 a8 a9 a10 a11 a12 a13 a14)
              · skip
                refine zX_run (n' := 22) (ls' := [some (.inl p1), some (.inl p2), some (.inl p3), some (.inl p4), some (.inl p5)]) (st' := [.inl 100, .inl p4]) (σ' := σ) 2 rfl ?_
                refine zX_c4 rfl (fun a15 => ?_) (fun a15 => ?_)
                · skip
                  refine zX_run (n' := 31) (ls' := [some (.inl p1), some (.inl p2), some (.inl p3), some (.inl p4), some (.inl p5)]) (st' := [.inl 0]) (σ' := σ) 1 rfl ?_
                  exact zX_ret rfl rfl (h12 a1 a2 a3 a4 a8 a9 a10 a11 a15)
                · skip
                  refine zX_run (n' := 24) (ls' := [some (.inl p1), some (.inl p2), some (.inl p3), some (.inl p4), some (.inl p5)]) (st' := [.inl p5]) (σ' := σ) 1 rfl ?_
                  refine zX_i2 rfl (fun a16 => ?_) (fun a16 => ?_)
                  · skip
                    refine zX_run (n' := 31) (ls' := [some (.inl p1), some (.inl p2), some (.inl p3), some (.inl p4), some (.inl p5)]) (st' := [.inl 0]) (σ' := σ) 1 rfl ?_
                    exact zX_ret rfl rfl (h13 a1 a2 a3 a4 a8 a9 a10 a11 a15 a16)
                  · skip
                    refine zX_run (n' := 27) (ls' := [some (.inl p1), some (.inl p2), some (.inl p3), some (.inl p4), some (.inl p5)]) (st' := [.inl 9999, .inl p5]) (σ' := σ) 2 rfl ?_
                    refine zX_c4 rfl (fun a17 => ?_) (fun a17 => ?_)
                    · skip
                      refine zX_run (n' := 31) (ls' := [some (.inl p1), some (.inl p2), some (.inl p3), some (.inl p4), some (.inl p5)]) (st' := [.inl 0]) (σ' := σ) 1 rfl ?_
                      exact zX_ret rfl rfl (h14 a1 a2 a3 a4 a8 a9 a10 a11 a15 a16 a17)
                    · skip
                      refine zX_run (n' := 31) (ls' := [some (.inl p1), some (.inl p2), some (.inl p3), some (.inl p4), some (.inl p5)]) (st' := [.inl 1]) (σ' := σ) 2 rfl ?_
                      exact zX_ret rfl rfl (h15 a1 a2 a3 a4 a8 a9 a10 a11 a15 a16 a17)
-- X10_puts
theorem zm_131 {d : Nat} {σ : zS} {Q : Option zV → zS → Prop} {p1 : Int} {p2 : Int} {p3 : Int} {p4 : Int} {p5 : Int} {p6 : Int}
    (o1 : (0 : Int) ≤ p1 ∧ p1 < (17 : Int))
    (o2 : (0 : Int) ≤ p1 ∧ p1 < (17 : Int))
    (o3 : (0 : Int) ≤ p1 ∧ p1 < (17 : Int))
    (o4 : (0 : Int) ≤ p1 ∧ p1 < (17 : Int))
    (o5 : (0 : Int) ≤ p1 ∧ p1 < (17 : Int))
    (o6 : (0 : Int) ≤ p1 ∧ p1 < (17 : Int))
    (o7 : (0 : Int) ≤ p1 ∧ p1 < (17 : Int))
    (h1 : Q (none) (zU (zU (zU (zU (zU (zU (zU σ 60 0 (p1.toNat) p2) 61 0 (p1.toNat) p3) 62 0 (p1.toNat) p4) 63 0 (p1.toNat) p5) 64 0 (p1.toNat) p6) 65 0 (p1.toNat) 0) 66 0 (p1.toNat) 96)) :
    zM d 131 [.inr (.inr (10, 0)), .inl p1, .inl p2, .inl p3, .inl p4, .inl p5, .inl p6] σ Q := by
  refine zX_run (n' := 4) (ls' := [some (.inr (.inr (10, 0))), some (.inl p1), some (.inl p2), some (.inl p3), some (.inl p4), some (.inl p5), some (.inl p6)]) (st' := [.inl p2, .inl p1, .inr (.inr (60, 0))]) (σ' := σ) 4 rfl ?_
  refine zX_ast1 (L := 17) rfl (by decide) rfl o1 ?_
  refine zX_run (n' := 9) (ls' := [some (.inr (.inr (10, 0))), some (.inl p1), some (.inl p2), some (.inl p3), some (.inl p4), some (.inl p5), some (.inl p6)]) (st' := [.inl p3, .inl p1, .inr (.inr (61, 0))]) (σ' := (zU σ 60 0 (p1.toNat) p2)) 4 rfl ?_
  refine zX_ast1 (L := 17) rfl (by decide) rfl o2 ?_
  refine zX_run (n' := 14) (ls' := [some (.inr (.inr (10, 0))), some (.inl p1), some (.inl p2), some (.inl p3), some (.inl p4), some (.inl p5), some (.inl p6)]) (st' := [.inl p4, .inl p1, .inr (.inr (62, 0))]) (σ' := (zU (zU σ 60 0 (p1.toNat) p2) 61 0 (p1.toNat) p3)) 4 rfl ?_
  refine zX_ast1 (L := 17) rfl (by decide) rfl o3 ?_
  refine zX_run (n' := 19) (ls' := [some (.inr (.inr (10, 0))), some (.inl p1), some (.inl p2), some (.inl p3), some (.inl p4), some (.inl p5), some (.inl p6)]) (st' := [.inl p5, .inl p1, .inr (.inr (63, 0))]) (σ' := (zU (zU (zU σ 60 0 (p1.toNat) p2) 61 0 (p1.toNat) p3) 62 0 (p1.toNat) p4)) 4 rfl ?_
  refine zX_ast1 (L := 17) rfl (by decide) rfl o4 ?_
  refine zX_run (n' := 24) (ls' := [some (.inr (.inr (10, 0))), some (.inl p1), some (.inl p2), some (.inl p3), some (.inl p4), some (.inl p5), some (.inl p6)]) (st' := [.inl p6, .inl p1, .inr (.inr (64, 0))]) (σ' := (zU (zU (zU (zU σ 60 0 (p1.toNat) p2) 61 0 (p1.toNat) p3) 62 0 (p1.toNat) p4) 63 0 (p1.toNat) p5)) 4 rfl ?_
  refine zX_ast1 (L := 17) rfl (by decide) rfl o5 ?_
  refine zX_run (n' := 29) (ls' := [some (.inr (.inr (10, 0))), some (.inl p1), some (.inl p2), some (.inl p3), some (.inl p4), some (.inl p5), some (.inl p6)]) (st' := [.inl 0, .inl p1, .inr (.inr (65, 0))]) (σ' := (zU (zU (zU (zU (zU σ 60 0 (p1.toNat) p2) 61 0 (p1.toNat) p3) 62 0 (p1.toNat) p4) 63 0 (p1.toNat) p5) 64 0 (p1.toNat) p6)) 4 rfl ?_
  refine zX_ast1 (L := 17) rfl (by decide) rfl o6 ?_
  refine zX_run (n' := 34) (ls' := [some (.inr (.inr (10, 0))), some (.inl p1), some (.inl p2), some (.inl p3), some (.inl p4), some (.inl p5), some (.inl p6)]) (st' := [.inl 96, .inl p1, .inr (.inr (66, 0))]) (σ' := (zU (zU (zU (zU (zU (zU σ 60 0 (p1.toNat) p2) 61 0 (p1.toNat) p3) 62 0 (p1.toNat) p4) 63 0 (p1.toNat) p5) 64 0 (p1.toNat) p6) 65 0 (p1.toNat) 0)) 4 rfl ?_
  refine zX_ast1 (L := 17) rfl (by decide) rfl o7 ?_
  exact zX_ret0 rfl rfl h1
-- X10_hold
theorem zm_132 {d : Nat} {σ : zS} {Q : Option zV → zS → Prop} {p1 : Int} {p2 : Int} {p3 : Int} {p4 : Int} {p5 : Int}
    (o1 : ¬ p1 < 0 → ¬ 6 ≤ p1 → ¬ p2 < 0 → ¬ 4 ≤ p2 → ¬ p3 < 0 → ¬ 7 ≤ p3 → ¬ p4 < 0 → ¬ p1 = 2 → ¬ 9999 < p4 → ¬ p5 < 0 → ¬ 9999 < p5 → ¬ σ.1 10 0 4 = 16 → (0 : Int) ≤ (σ.1 10 0 4) ∧ (σ.1 10 0 4) < (17 : Int))
    (o2 : ¬ p1 < 0 → ¬ 6 ≤ p1 → ¬ p2 < 0 → ¬ 4 ≤ p2 → ¬ p3 < 0 → ¬ 7 ≤ p3 → ¬ p4 < 0 → ¬ p1 = 2 → ¬ 9999 < p4 → ¬ p5 < 0 → ¬ 9999 < p5 → ¬ σ.1 10 0 4 = 16 → (0 : Int) ≤ (σ.1 10 0 4) ∧ (σ.1 10 0 4) < (17 : Int))
    (o3 : ¬ p1 < 0 → ¬ 6 ≤ p1 → ¬ p2 < 0 → ¬ 4 ≤ p2 → ¬ p3 < 0 → ¬ 7 ≤ p3 → ¬ p4 < 0 → ¬ p1 = 2 → ¬ 9999 < p4 → ¬ p5 < 0 → ¬ 9999 < p5 → ¬ σ.1 10 0 4 = 16 → (0 : Int) ≤ (σ.1 10 0 4) ∧ (σ.1 10 0 4) < (17 : Int))
    (o4 : ¬ p1 < 0 → ¬ 6 ≤ p1 → ¬ p2 < 0 → ¬ 4 ≤ p2 → ¬ p3 < 0 → ¬ 7 ≤ p3 → ¬ p4 < 0 → ¬ p1 = 2 → ¬ 9999 < p4 → ¬ p5 < 0 → ¬ 9999 < p5 → ¬ σ.1 10 0 4 = 16 → (0 : Int) ≤ (σ.1 10 0 4) ∧ (σ.1 10 0 4) < (17 : Int))
    (o5 : ¬ p1 < 0 → ¬ 6 ≤ p1 → ¬ p2 < 0 → ¬ 4 ≤ p2 → ¬ p3 < 0 → ¬ 7 ≤ p3 → ¬ p4 < 0 → ¬ p1 = 2 → ¬ 9999 < p4 → ¬ p5 < 0 → ¬ 9999 < p5 → ¬ σ.1 10 0 4 = 16 → (0 : Int) ≤ (σ.1 10 0 4) ∧ (σ.1 10 0 4) < (17 : Int))
    (o6 : ¬ p1 < 0 → ¬ 6 ≤ p1 → ¬ p2 < 0 → ¬ 4 ≤ p2 → ¬ p3 < 0 → ¬ 7 ≤ p3 → ¬ p4 < 0 → ¬ p1 = 2 → ¬ 9999 < p4 → ¬ p5 < 0 → ¬ 9999 < p5 → ¬ σ.1 10 0 4 = 16 → (0 : Int) ≤ (σ.1 10 0 4) ∧ (σ.1 10 0 4) < (17 : Int))
    (o7 : ¬ p1 < 0 → ¬ 6 ≤ p1 → ¬ p2 < 0 → ¬ 4 ≤ p2 → ¬ p3 < 0 → ¬ 7 ≤ p3 → ¬ p4 < 0 → ¬ p1 = 2 → ¬ 9999 < p4 → ¬ p5 < 0 → ¬ 9999 < p5 → ¬ σ.1 10 0 4 = 16 → (0 : Int) ≤ (σ.1 10 0 4) ∧ (σ.1 10 0 4) < (17 : Int))
    (o8 : ¬ p1 < 0 → ¬ 6 ≤ p1 → ¬ p2 < 0 → ¬ 4 ≤ p2 → ¬ p3 < 0 → ¬ 7 ≤ p3 → ¬ p4 < 0 → p1 = 2 → ¬ 100 < p4 → ¬ p5 < 0 → ¬ 9999 < p5 → ¬ σ.1 10 0 4 = 16 → (0 : Int) ≤ (σ.1 10 0 4) ∧ (σ.1 10 0 4) < (17 : Int))
    (o9 : ¬ p1 < 0 → ¬ 6 ≤ p1 → ¬ p2 < 0 → ¬ 4 ≤ p2 → ¬ p3 < 0 → ¬ 7 ≤ p3 → ¬ p4 < 0 → p1 = 2 → ¬ 100 < p4 → ¬ p5 < 0 → ¬ 9999 < p5 → ¬ σ.1 10 0 4 = 16 → (0 : Int) ≤ (σ.1 10 0 4) ∧ (σ.1 10 0 4) < (17 : Int))
    (o10 : ¬ p1 < 0 → ¬ 6 ≤ p1 → ¬ p2 < 0 → ¬ 4 ≤ p2 → ¬ p3 < 0 → ¬ 7 ≤ p3 → ¬ p4 < 0 → p1 = 2 → ¬ 100 < p4 → ¬ p5 < 0 → ¬ 9999 < p5 → ¬ σ.1 10 0 4 = 16 → (0 : Int) ≤ (σ.1 10 0 4) ∧ (σ.1 10 0 4) < (17 : Int))
    (o11 : ¬ p1 < 0 → ¬ 6 ≤ p1 → ¬ p2 < 0 → ¬ 4 ≤ p2 → ¬ p3 < 0 → ¬ 7 ≤ p3 → ¬ p4 < 0 → p1 = 2 → ¬ 100 < p4 → ¬ p5 < 0 → ¬ 9999 < p5 → ¬ σ.1 10 0 4 = 16 → (0 : Int) ≤ (σ.1 10 0 4) ∧ (σ.1 10 0 4) < (17 : Int))
    (o12 : ¬ p1 < 0 → ¬ 6 ≤ p1 → ¬ p2 < 0 → ¬ 4 ≤ p2 → ¬ p3 < 0 → ¬ 7 ≤ p3 → ¬ p4 < 0 → p1 = 2 → ¬ 100 < p4 → ¬ p5 < 0 → ¬ 9999 < p5 → ¬ σ.1 10 0 4 = 16 → (0 : Int) ≤ (σ.1 10 0 4) ∧ (σ.1 10 0 4) < (17 : Int))
    (o13 : ¬ p1 < 0 → ¬ 6 ≤ p1 → ¬ p2 < 0 → ¬ 4 ≤ p2 → ¬ p3 < 0 → ¬ 7 ≤ p3 → ¬ p4 < 0 → p1 = 2 → ¬ 100 < p4 → ¬ p5 < 0 → ¬ 9999 < p5 → ¬ σ.1 10 0 4 = 16 → (0 : Int) ≤ (σ.1 10 0 4) ∧ (σ.1 10 0 4) < (17 : Int))
    (o14 : ¬ p1 < 0 → ¬ 6 ≤ p1 → ¬ p2 < 0 → ¬ 4 ≤ p2 → ¬ p3 < 0 → ¬ 7 ≤ p3 → ¬ p4 < 0 → p1 = 2 → ¬ 100 < p4 → ¬ p5 < 0 → ¬ 9999 < p5 → ¬ σ.1 10 0 4 = 16 → (0 : Int) ≤ (σ.1 10 0 4) ∧ (σ.1 10 0 4) < (17 : Int))
    (h1 : p1 < 0 → Q (some (.inl (-2))) σ)
    (h2 : ¬ p1 < 0 → 6 ≤ p1 → Q (some (.inl (-2))) σ)
    (h3 : ¬ p1 < 0 → ¬ 6 ≤ p1 → p2 < 0 → Q (some (.inl (-2))) σ)
    (h4 : ¬ p1 < 0 → ¬ 6 ≤ p1 → ¬ p2 < 0 → 4 ≤ p2 → Q (some (.inl (-2))) σ)
    (h5 : ¬ p1 < 0 → ¬ 6 ≤ p1 → ¬ p2 < 0 → ¬ 4 ≤ p2 → p3 < 0 → Q (some (.inl (-2))) σ)
    (h6 : ¬ p1 < 0 → ¬ 6 ≤ p1 → ¬ p2 < 0 → ¬ 4 ≤ p2 → ¬ p3 < 0 → 7 ≤ p3 → Q (some (.inl (-2))) σ)
    (h7 : ¬ p1 < 0 → ¬ 6 ≤ p1 → ¬ p2 < 0 → ¬ 4 ≤ p2 → ¬ p3 < 0 → ¬ 7 ≤ p3 → p4 < 0 → Q (some (.inl (-2))) σ)
    (h8 : ¬ p1 < 0 → ¬ 6 ≤ p1 → ¬ p2 < 0 → ¬ 4 ≤ p2 → ¬ p3 < 0 → ¬ 7 ≤ p3 → ¬ p4 < 0 → ¬ p1 = 2 → 9999 < p4 → Q (some (.inl (-2))) σ)
    (h9 : ¬ p1 < 0 → ¬ 6 ≤ p1 → ¬ p2 < 0 → ¬ 4 ≤ p2 → ¬ p3 < 0 → ¬ 7 ≤ p3 → ¬ p4 < 0 → ¬ p1 = 2 → ¬ 9999 < p4 → p5 < 0 → Q (some (.inl (-2))) σ)
    (h10 : ¬ p1 < 0 → ¬ 6 ≤ p1 → ¬ p2 < 0 → ¬ 4 ≤ p2 → ¬ p3 < 0 → ¬ 7 ≤ p3 → ¬ p4 < 0 → ¬ p1 = 2 → ¬ 9999 < p4 → ¬ p5 < 0 → 9999 < p5 → Q (some (.inl (-2))) σ)
    (h11 : ¬ p1 < 0 → ¬ 6 ≤ p1 → ¬ p2 < 0 → ¬ 4 ≤ p2 → ¬ p3 < 0 → ¬ 7 ≤ p3 → ¬ p4 < 0 → ¬ p1 = 2 → ¬ 9999 < p4 → ¬ p5 < 0 → ¬ 9999 < p5 → ¬ σ.1 10 0 4 = 16 → Q (some (.inl (σ.1 10 0 4))) (zU (zU (zU (zU (zU (zU (zU (zU σ 60 0 ((σ.1 10 0 4).toNat) p1) 61 0 ((σ.1 10 0 4).toNat) p2) 62 0 ((σ.1 10 0 4).toNat) p3) 63 0 ((σ.1 10 0 4).toNat) p4) 64 0 ((σ.1 10 0 4).toNat) p5) 65 0 ((σ.1 10 0 4).toNat) 0) 66 0 ((σ.1 10 0 4).toNat) 96) 10 0 4 (zW ((σ.1 10 0 4) + 1))))
    (h12 : ¬ p1 < 0 → ¬ 6 ≤ p1 → ¬ p2 < 0 → ¬ 4 ≤ p2 → ¬ p3 < 0 → ¬ 7 ≤ p3 → ¬ p4 < 0 → ¬ p1 = 2 → ¬ 9999 < p4 → ¬ p5 < 0 → ¬ 9999 < p5 → σ.1 10 0 4 = 16 → Q (some (.inl (-4))) σ)
    (h13 : ¬ p1 < 0 → ¬ 6 ≤ p1 → ¬ p2 < 0 → ¬ 4 ≤ p2 → ¬ p3 < 0 → ¬ 7 ≤ p3 → ¬ p4 < 0 → p1 = 2 → 100 < p4 → Q (some (.inl (-2))) σ)
    (h14 : ¬ p1 < 0 → ¬ 6 ≤ p1 → ¬ p2 < 0 → ¬ 4 ≤ p2 → ¬ p3 < 0 → ¬ 7 ≤ p3 → ¬ p4 < 0 → p1 = 2 → ¬ 100 < p4 → p5 < 0 → Q (some (.inl (-2))) σ)
    (h15 : ¬ p1 < 0 → ¬ 6 ≤ p1 → ¬ p2 < 0 → ¬ 4 ≤ p2 → ¬ p3 < 0 → ¬ 7 ≤ p3 → ¬ p4 < 0 → p1 = 2 → ¬ 100 < p4 → ¬ p5 < 0 → 9999 < p5 → Q (some (.inl (-2))) σ)
    (h16 : ¬ p1 < 0 → ¬ 6 ≤ p1 → ¬ p2 < 0 → ¬ 4 ≤ p2 → ¬ p3 < 0 → ¬ 7 ≤ p3 → ¬ p4 < 0 → p1 = 2 → ¬ 100 < p4 → ¬ p5 < 0 → ¬ 9999 < p5 → ¬ σ.1 10 0 4 = 16 → Q (some (.inl (σ.1 10 0 4))) (zU (zU (zU (zU (zU (zU (zU (zU σ 60 0 ((σ.1 10 0 4).toNat) p1) 61 0 ((σ.1 10 0 4).toNat) p2) 62 0 ((σ.1 10 0 4).toNat) p3) 63 0 ((σ.1 10 0 4).toNat) p4) 64 0 ((σ.1 10 0 4).toNat) p5) 65 0 ((σ.1 10 0 4).toNat) 0) 66 0 ((σ.1 10 0 4).toNat) 96) 10 0 4 (zW ((σ.1 10 0 4) + 1))))
    (h17 : ¬ p1 < 0 → ¬ 6 ≤ p1 → ¬ p2 < 0 → ¬ 4 ≤ p2 → ¬ p3 < 0 → ¬ 7 ≤ p3 → ¬ p4 < 0 → p1 = 2 → ¬ 100 < p4 → ¬ p5 < 0 → ¬ 9999 < p5 → σ.1 10 0 4 = 16 → Q (some (.inl (-4))) σ) :
    zM (d + 2) 132 [.inr (.inr (10, 0)), .inl p1, .inl p2, .inl p3, .inl p4, .inl p5] σ Q := by
  refine zX_run (n' := 5) (ls' := [some (.inr (.inr (10, 0))), some (.inl p1), some (.inl p2), some (.inl p3), some (.inl p4), some (.inl p5)]) (st' := [.inl p5, .inl p4, .inl p3, .inl p2, .inl p1]) (σ' := σ) 5 rfl ?_
  refine zX_call rfl rfl ?_
  refine zm_130 (fun a1 => ?_) (fun a2 a3 => ?_) (fun a4 a5 a6 => ?_) (fun a7 a8 a9 a10 => ?_) (fun a11 a12 a13 a14 a15 => ?_) (fun a16 a17 a18 a19 a20 a21 => ?_) (fun a22 a23 a24 a25 a26 a27 a28 => ?_) (fun a29 a30 a31 a32 a33 a34 a35 a36 a37 => ?_) (fun a38 a39 a40 a41 a42 a43 a44 a45 a46 a47 => ?_) (fun a48 a49 a50 a51 a52 a53 a54 a55 a56 a57 a58 => ?_) (fun a59 a60 a61 a62 a63 a64 a65 a66 a67 a68 a69 => ?_) (fun a70 a71 a72 a73 a74 a75 a76 a77 a78 => ?_) (fun a79 a80 a81 a82 a83 a84 a85 a86 a87 a88 => ?_) (fun a89 a90 a91 a92 a93 a94 a95 a96 a97 a98 a99 => ?_) (fun a100 a101 a102 a103 a104 a105 a106 a107 a108 a109 a110 => ?_)
  · skip
    refine zX_run (n' := 8) (ls' := [some (.inr (.inr (10, 0))), some (.inl p1), some (.inl p2), some (.inl p3), some (.inl p4), some (.inl p5)]) (st' := [.inl (-2)]) (σ' := σ) 2 rfl ?_
    exact zX_ret rfl rfl (h1 a1)
  · skip
    refine zX_run (n' := 8) (ls' := [some (.inr (.inr (10, 0))), some (.inl p1), some (.inl p2), some (.inl p3), some (.inl p4), some (.inl p5)]) (st' := [.inl (-2)]) (σ' := σ) 2 rfl ?_
    exact zX_ret rfl rfl (h2 a2 a3)
  · skip
    refine zX_run (n' := 8) (ls' := [some (.inr (.inr (10, 0))), some (.inl p1), some (.inl p2), some (.inl p3), some (.inl p4), some (.inl p5)]) (st' := [.inl (-2)]) (σ' := σ) 2 rfl ?_
    exact zX_ret rfl rfl (h3 a4 a5 a6)
  · skip
    refine zX_run (n' := 8) (ls' := [some (.inr (.inr (10, 0))), some (.inl p1), some (.inl p2), some (.inl p3), some (.inl p4), some (.inl p5)]) (st' := [.inl (-2)]) (σ' := σ) 2 rfl ?_
    exact zX_ret rfl rfl (h4 a7 a8 a9 a10)
  · skip
    refine zX_run (n' := 8) (ls' := [some (.inr (.inr (10, 0))), some (.inl p1), some (.inl p2), some (.inl p3), some (.inl p4), some (.inl p5)]) (st' := [.inl (-2)]) (σ' := σ) 2 rfl ?_
    exact zX_ret rfl rfl (h5 a11 a12 a13 a14 a15)
  · skip
    refine zX_run (n' := 8) (ls' := [some (.inr (.inr (10, 0))), some (.inl p1), some (.inl p2), some (.inl p3), some (.inl p4), some (.inl p5)]) (st' := [.inl (-2)]) (σ' := σ) 2 rfl ?_
    exact zX_ret rfl rfl (h6 a16 a17 a18 a19 a20 a21)
  · skip
    refine zX_run (n' := 8) (ls' := [some (.inr (.inr (10, 0))), some (.inl p1), some (.inl p2), some (.inl p3), some (.inl p4), some (.inl p5)]) (st' := [.inl (-2)]) (σ' := σ) 2 rfl ?_
    exact zX_ret rfl rfl (h7 a22 a23 a24 a25 a26 a27 a28)
  · skip
    refine zX_run (n' := 8) (ls' := [some (.inr (.inr (10, 0))), some (.inl p1), some (.inl p2), some (.inl p3), some (.inl p4), some (.inl p5)]) (st' := [.inl (-2)]) (σ' := σ) 2 rfl ?_
    exact zX_ret rfl rfl (h8 a29 a30 a31 a32 a33 a34 a35 a36 a37)
  · skip
    refine zX_run (n' := 8) (ls' := [some (.inr (.inr (10, 0))), some (.inl p1), some (.inl p2), some (.inl p3), some (.inl p4), some (.inl p5)]) (st' := [.inl (-2)]) (σ' := σ) 2 rfl ?_
    exact zX_ret rfl rfl (h9 a38 a39 a40 a41 a42 a43 a44 a45 a46 a47)
  · skip
    refine zX_run (n' := 8) (ls' := [some (.inr (.inr (10, 0))), some (.inl p1), some (.inl p2), some (.inl p3), some (.inl p4), some (.inl p5)]) (st' := [.inl (-2)]) (σ' := σ) 2 rfl ?_
    exact zX_ret rfl rfl (h10 a48 a49 a50 a51 a52 a53 a54 a55 a56 a57 a58)
  · skip
    refine zX_run (n' := 12) (ls' := [some (.inr (.inr (10, 0))), some (.inl p1), some (.inl p2), some (.inl p3), some (.inl p4), some (.inl p5)]) (st' := [.inl 16, .inl (σ.1 10 0 4)]) (σ' := σ) 4 rfl ?_
    refine zX_c1 rfl (fun a111 => ?_) (fun a111 => ?_)
    · skip
      refine zX_run (n' := 23) (ls' := [some (.inr (.inr (10, 0))), some (.inl p1), some (.inl p2), some (.inl p3), some (.inl p4), some (.inl p5)]) (st' := [.inl p5, .inl p4, .inl p3, .inl p2, .inl p1, .inl (σ.1 10 0 4), .inr (.inr (10, 0))]) (σ' := σ) 8 rfl ?_
      refine zX_call rfl rfl ?_
      refine zm_131 (o1 a59 a60 a61 a62 a63 a64 a65 a66 a67 a68 a69 a111) (o2 a59 a60 a61 a62 a63 a64 a65 a66 a67 a68 a69 a111) (o3 a59 a60 a61 a62 a63 a64 a65 a66 a67 a68 a69 a111) (o4 a59 a60 a61 a62 a63 a64 a65 a66 a67 a68 a69 a111) (o5 a59 a60 a61 a62 a63 a64 a65 a66 a67 a68 a69 a111) (o6 a59 a60 a61 a62 a63 a64 a65 a66 a67 a68 a69 a111) (o7 a59 a60 a61 a62 a63 a64 a65 a66 a67 a68 a69 a111) ?_
      · skip
        refine zX_run (n' := 31) (ls' := [some (.inr (.inr (10, 0))), some (.inl p1), some (.inl p2), some (.inl p3), some (.inl p4), some (.inl p5)]) (st' := [.inl (σ.1 10 0 4)]) (σ' := (zU (zU (zU (zU (zU (zU (zU (zU σ 60 0 ((σ.1 10 0 4).toNat) p1) 61 0 ((σ.1 10 0 4).toNat) p2) 62 0 ((σ.1 10 0 4).toNat) p3) 63 0 ((σ.1 10 0 4).toNat) p4) 64 0 ((σ.1 10 0 4).toNat) p5) 65 0 ((σ.1 10 0 4).toNat) 0) 66 0 ((σ.1 10 0 4).toNat) 96) 10 0 4 (zW ((σ.1 10 0 4) + 1)))) 7 rfl ?_
        exact zX_ret rfl rfl (h11 a59 a60 a61 a62 a63 a64 a65 a66 a67 a68 a69 a111)
    · skip
      refine zX_run (n' := 14) (ls' := [some (.inr (.inr (10, 0))), some (.inl p1), some (.inl p2), some (.inl p3), some (.inl p4), some (.inl p5)]) (st' := [.inl (-4)]) (σ' := σ) 1 rfl ?_
      exact zX_ret rfl rfl (h12 a59 a60 a61 a62 a63 a64 a65 a66 a67 a68 a69 a111)
  · skip
    refine zX_run (n' := 8) (ls' := [some (.inr (.inr (10, 0))), some (.inl p1), some (.inl p2), some (.inl p3), some (.inl p4), some (.inl p5)]) (st' := [.inl (-2)]) (σ' := σ) 2 rfl ?_
    exact zX_ret rfl rfl (h13 a70 a71 a72 a73 a74 a75 a76 a77 a78)
  · skip
    refine zX_run (n' := 8) (ls' := [some (.inr (.inr (10, 0))), some (.inl p1), some (.inl p2), some (.inl p3), some (.inl p4), some (.inl p5)]) (st' := [.inl (-2)]) (σ' := σ) 2 rfl ?_
    exact zX_ret rfl rfl (h14 a79 a80 a81 a82 a83 a84 a85 a86 a87 a88)
  · skip
    refine zX_run (n' := 8) (ls' := [some (.inr (.inr (10, 0))), some (.inl p1), some (.inl p2), some (.inl p3), some (.inl p4), some (.inl p5)]) (st' := [.inl (-2)]) (σ' := σ) 2 rfl ?_
    exact zX_ret rfl rfl (h15 a89 a90 a91 a92 a93 a94 a95 a96 a97 a98 a99)
  · skip
    refine zX_run (n' := 12) (ls' := [some (.inr (.inr (10, 0))), some (.inl p1), some (.inl p2), some (.inl p3), some (.inl p4), some (.inl p5)]) (st' := [.inl 16, .inl (σ.1 10 0 4)]) (σ' := σ) 4 rfl ?_
    refine zX_c1 rfl (fun a112 => ?_) (fun a112 => ?_)
    · skip
      refine zX_run (n' := 23) (ls' := [some (.inr (.inr (10, 0))), some (.inl p1), some (.inl p2), some (.inl p3), some (.inl p4), some (.inl p5)]) (st' := [.inl p5, .inl p4, .inl p3, .inl p2, .inl p1, .inl (σ.1 10 0 4), .inr (.inr (10, 0))]) (σ' := σ) 8 rfl ?_
      refine zX_call rfl rfl ?_
      refine zm_131 (o8 a100 a101 a102 a103 a104 a105 a106 a107 a108 a109 a110 a112) (o9 a100 a101 a102 a103 a104 a105 a106 a107 a108 a109 a110 a112) (o10 a100 a101 a102 a103 a104 a105 a106 a107 a108 a109 a110 a112) (o11 a100 a101 a102 a103 a104 a105 a106 a107 a108 a109 a110 a112) (o12 a100 a101 a102 a103 a104 a105 a106 a107 a108 a109 a110 a112) (o13 a100 a101 a102 a103 a104 a105 a106 a107 a108 a109 a110 a112) (o14 a100 a101 a102 a103 a104 a105 a106 a107 a108 a109 a110 a112) ?_
      · skip
        refine zX_run (n' := 31) (ls' := [some (.inr (.inr (10, 0))), some (.inl p1), some (.inl p2), some (.inl p3), some (.inl p4), some (.inl p5)]) (st' := [.inl (σ.1 10 0 4)]) (σ' := (zU (zU (zU (zU (zU (zU (zU (zU σ 60 0 ((σ.1 10 0 4).toNat) p1) 61 0 ((σ.1 10 0 4).toNat) p2) 62 0 ((σ.1 10 0 4).toNat) p3) 63 0 ((σ.1 10 0 4).toNat) p4) 64 0 ((σ.1 10 0 4).toNat) p5) 65 0 ((σ.1 10 0 4).toNat) 0) 66 0 ((σ.1 10 0 4).toNat) 96) 10 0 4 (zW ((σ.1 10 0 4) + 1)))) 7 rfl ?_
        exact zX_ret rfl rfl (h16 a100 a101 a102 a103 a104 a105 a106 a107 a108 a109 a110 a112)
    · skip
      refine zX_run (n' := 14) (ls' := [some (.inr (.inr (10, 0))), some (.inl p1), some (.inl p2), some (.inl p3), some (.inl p4), some (.inl p5)]) (st' := [.inl (-4)]) (σ' := σ) 1 rfl ?_
      exact zX_ret rfl rfl (h17 a100 a101 a102 a103 a104 a105 a106 a107 a108 a109 a110 a112)
-- X10_isSpan
theorem zm_133 {d : Nat} {σ : zS} {Q : Option zV → zS → Prop} {p1 : Int} {p2 : Int}
    (h1 : p1 < 0 → Q (some (.inl 0)) σ)
    (h2 : ¬ p1 < 0 → p2 < p1 → Q (some (.inl 0)) σ)
    (h3 : ¬ p1 < 0 → ¬ p2 < p1 → 96 < p2 → Q (some (.inl 0)) σ)
    (h4 : ¬ p1 < 0 → ¬ p2 < p1 → ¬ 96 < p2 → Q (some (.inl 1)) σ) :
    zM d 133 [.inl p1, .inl p2] σ Q := by
  refine zX_run (n' := 1) (ls' := [some (.inl p1), some (.inl p2)]) (st' := [.inl p1]) (σ' := σ) 1 rfl ?_
  refine zX_i2 rfl (fun a1 => ?_) (fun a1 => ?_)
  · skip
    refine zX_run (n' := 11) (ls' := [some (.inl p1), some (.inl p2)]) (st' := [.inl 0]) (σ' := σ) 1 rfl ?_
    exact zX_ret rfl rfl (h1 a1)
  · skip
    refine zX_run (n' := 4) (ls' := [some (.inl p1), some (.inl p2)]) (st' := [.inl p1, .inl p2]) (σ' := σ) 2 rfl ?_
    refine zX_c2 rfl (fun a2 => ?_) (fun a2 => ?_)
    · skip
      refine zX_run (n' := 11) (ls' := [some (.inl p1), some (.inl p2)]) (st' := [.inl 0]) (σ' := σ) 1 rfl ?_
      exact zX_ret rfl rfl (h2 a1 a2)
    · skip
      refine zX_run (n' := 7) (ls' := [some (.inl p1), some (.inl p2)]) (st' := [.inl 96, .inl p2]) (σ' := σ) 2 rfl ?_
      refine zX_c4 rfl (fun a3 => ?_) (fun a3 => ?_)
      · skip
        refine zX_run (n' := 11) (ls' := [some (.inl p1), some (.inl p2)]) (st' := [.inl 0]) (σ' := σ) 1 rfl ?_
        exact zX_ret rfl rfl (h3 a1 a2 a3)
      · skip
        refine zX_run (n' := 11) (ls' := [some (.inl p1), some (.inl p2)]) (st' := [.inl 1]) (σ' := σ) 2 rfl ?_
        exact zX_ret rfl rfl (h4 a1 a2 a3)
-- X10_force
theorem zm_134 {d : Nat} {σ : zS} {Q : Option zV → zS → Prop} {p1 : Int} {p2 : Int} {p3 : Int}
    (o1 : ¬ p1 < 0 → ¬ σ.1 10 0 4 ≤ p1 → ¬ p2 < 0 → ¬ p3 < p2 → ¬ 96 < p3 → (0 : Int) ≤ p1 ∧ p1 < (17 : Int))
    (o2 : ¬ p1 < 0 → ¬ σ.1 10 0 4 ≤ p1 → ¬ p2 < 0 → ¬ p3 < p2 → ¬ 96 < p3 → (0 : Int) ≤ p1 ∧ p1 < (17 : Int))
    (h1 : p1 < 0 → Q (some (.inl (-2))) σ)
    (h2 : ¬ p1 < 0 → σ.1 10 0 4 ≤ p1 → Q (some (.inl (-2))) σ)
    (h3 : ¬ p1 < 0 → ¬ σ.1 10 0 4 ≤ p1 → p2 < 0 → Q (some (.inl (-2))) σ)
    (h4 : ¬ p1 < 0 → ¬ σ.1 10 0 4 ≤ p1 → ¬ p2 < 0 → p3 < p2 → Q (some (.inl (-2))) σ)
    (h5 : ¬ p1 < 0 → ¬ σ.1 10 0 4 ≤ p1 → ¬ p2 < 0 → ¬ p3 < p2 → 96 < p3 → Q (some (.inl (-2))) σ)
    (h6 : ¬ p1 < 0 → ¬ σ.1 10 0 4 ≤ p1 → ¬ p2 < 0 → ¬ p3 < p2 → ¬ 96 < p3 → Q (some (.inl (zW (p3 - p2)))) (zU (zU σ 65 0 (p1.toNat) p2) 66 0 (p1.toNat) p3)) :
    zM (d + 1) 134 [.inr (.inr (10, 0)), .inl p1, .inl p2, .inl p3] σ Q := by
  refine zX_run (n' := 2) (ls' := [some (.inr (.inr (10, 0))), some (.inl p1), some (.inl p2), some (.inl p3)]) (st' := [.inl p1, .inr (.inr (10, 0))]) (σ' := σ) 2 rfl ?_
  refine zX_call rfl rfl ?_
  refine zm_121 (fun a1 => ?_) (fun a2 a3 => ?_) (fun a4 a5 => ?_)
  · skip
    refine zX_run (n' := 9) (ls' := [some (.inr (.inr (10, 0))), some (.inl p1), some (.inl p2), some (.inl p3)]) (st' := [.inl (-2)]) (σ' := σ) 2 rfl ?_
    exact zX_ret rfl rfl (h1 a1)
  · skip
    refine zX_run (n' := 9) (ls' := [some (.inr (.inr (10, 0))), some (.inl p1), some (.inl p2), some (.inl p3)]) (st' := [.inl (-2)]) (σ' := σ) 2 rfl ?_
    exact zX_ret rfl rfl (h2 a2 a3)
  · skip
    refine zX_run (n' := 6) (ls' := [some (.inr (.inr (10, 0))), some (.inl p1), some (.inl p2), some (.inl p3)]) (st' := [.inl p3, .inl p2]) (σ' := σ) 3 rfl ?_
    refine zX_call rfl rfl ?_
    refine zm_133 (fun a6 => ?_) (fun a7 a8 => ?_) (fun a9 a10 a11 => ?_) (fun a12 a13 a14 => ?_)
    · skip
      refine zX_run (n' := 9) (ls' := [some (.inr (.inr (10, 0))), some (.inl p1), some (.inl p2), some (.inl p3)]) (st' := [.inl (-2)]) (σ' := σ) 2 rfl ?_
      exact zX_ret rfl rfl (h3 a4 a5 a6)
    · skip
      refine zX_run (n' := 9) (ls' := [some (.inr (.inr (10, 0))), some (.inl p1), some (.inl p2), some (.inl p3)]) (st' := [.inl (-2)]) (σ' := σ) 2 rfl ?_
      exact zX_ret rfl rfl (h4 a4 a5 a7 a8)
    · skip
      refine zX_run (n' := 9) (ls' := [some (.inr (.inr (10, 0))), some (.inl p1), some (.inl p2), some (.inl p3)]) (st' := [.inl (-2)]) (σ' := σ) 2 rfl ?_
      exact zX_ret rfl rfl (h5 a4 a5 a9 a10 a11)
    · skip
      refine zX_run (n' := 14) (ls' := [some (.inr (.inr (10, 0))), some (.inl p1), some (.inl p2), some (.inl p3)]) (st' := [.inl p2, .inl p1, .inr (.inr (65, 0))]) (σ' := σ) 5 rfl ?_
      refine zX_ast1 (L := 17) rfl (by decide) rfl (o1 a4 a5 a12 a13 a14) ?_
      refine zX_run (n' := 19) (ls' := [some (.inr (.inr (10, 0))), some (.inl p1), some (.inl p2), some (.inl p3)]) (st' := [.inl p3, .inl p1, .inr (.inr (66, 0))]) (σ' := (zU σ 65 0 (p1.toNat) p2)) 4 rfl ?_
      refine zX_ast1 (L := 17) rfl (by decide) rfl (o2 a4 a5 a12 a13 a14) ?_
      refine zX_run (n' := 23) (ls' := [some (.inr (.inr (10, 0))), some (.inl p1), some (.inl p2), some (.inl p3)]) (st' := [.inl (zW (p3 - p2))]) (σ' := (zU (zU σ 65 0 (p1.toNat) p2) 66 0 (p1.toNat) p3)) 3 rfl ?_
      exact zX_ret rfl rfl (h6 a4 a5 a12 a13 a14)
-- X10_rank
theorem zm_135 {d : Nat} {σ : zS} {Q : Option zV → zS → Prop} {p1 : Int}
    (o1 : (0 : Int) ≤ p1 ∧ p1 < (17 : Int))
    (o2 : σ.1 60 0 (p1.toNat) < 2 ∨ 5 < σ.1 60 0 (p1.toNat) → (0 : Int) ≤ p1 ∧ p1 < (17 : Int))
    (o3 : σ.1 60 0 (p1.toNat) = 3 → (0 : Int) ≤ p1 ∧ p1 < (17 : Int))
    (o4 : σ.1 60 0 (p1.toNat) = 4 → (0 : Int) ≤ p1 ∧ p1 < (17 : Int))
    (o5 : σ.1 60 0 (p1.toNat) = 5 → (0 : Int) ≤ p1 ∧ p1 < (17 : Int))
    (h1 : σ.1 60 0 (p1.toNat) < 2 ∨ 5 < σ.1 60 0 (p1.toNat) → Q (some (.inl (σ.1 64 0 (p1.toNat)))) σ)
    (h2 : σ.1 60 0 (p1.toNat) = 2 → Q (some (.inl 0)) σ)
    (h3 : σ.1 60 0 (p1.toNat) = 3 → Q (some (.inl (zW ((σ.1 64 0 (p1.toNat)) - 1000)))) σ)
    (h4 : σ.1 60 0 (p1.toNat) = 4 → Q (some (.inl (zW ((σ.1 64 0 (p1.toNat)) + 1)))) σ)
    (h5 : σ.1 60 0 (p1.toNat) = 5 → Q (some (.inl (zW ((σ.1 64 0 (p1.toNat)) - 2000)))) σ) :
    zM d 135 [.inr (.inr (10, 0)), .inl p1] σ Q := by
  refine zX_run (n' := 3) (ls' := [some (.inr (.inr (10, 0))), some (.inl p1)]) (st' := [.inl p1, .inr (.inr (60, 0))]) (σ' := σ) 3 rfl ?_
  refine zX_ald1 (L := 17) rfl (by decide) rfl o1 ?_
  refine zX_sw rfl (fun a1 => ?_) ⟨fun a1 => ?_, fun a1 => ?_, fun a1 => ?_, fun a1 => ?_, trivial⟩
  · skip
    refine zX_run (n' := 31) (ls' := [some (.inr (.inr (10, 0))), some (.inl p1)]) (st' := [.inl p1, .inr (.inr (64, 0))]) (σ' := σ) 3 rfl ?_
    refine zX_ald1 (L := 17) rfl (by decide) rfl (o2 a1) ?_
    exact zX_ret rfl rfl (h1 a1)
  · skip
    refine zX_run (n' := 6) (ls' := [some (.inr (.inr (10, 0))), some (.inl p1)]) (st' := [.inl 0]) (σ' := σ) 1 rfl ?_
    exact zX_ret rfl rfl (h2 a1)
  · skip
    refine zX_run (n' := 10) (ls' := [some (.inr (.inr (10, 0))), some (.inl p1)]) (st' := [.inl p1, .inr (.inr (64, 0))]) (σ' := σ) 3 rfl ?_
    refine zX_ald1 (L := 17) rfl (by decide) rfl (o3 a1) ?_
    refine zX_run (n' := 13) (ls' := [some (.inr (.inr (10, 0))), some (.inl p1)]) (st' := [.inl (zW ((σ.1 64 0 (p1.toNat)) - 1000))]) (σ' := σ) 2 rfl ?_
    exact zX_ret rfl rfl (h3 a1)
  · skip
    refine zX_run (n' := 17) (ls' := [some (.inr (.inr (10, 0))), some (.inl p1)]) (st' := [.inl p1, .inr (.inr (64, 0))]) (σ' := σ) 3 rfl ?_
    refine zX_ald1 (L := 17) rfl (by decide) rfl (o4 a1) ?_
    refine zX_run (n' := 20) (ls' := [some (.inr (.inr (10, 0))), some (.inl p1)]) (st' := [.inl (zW ((σ.1 64 0 (p1.toNat)) + 1))]) (σ' := σ) 2 rfl ?_
    exact zX_ret rfl rfl (h4 a1)
  · skip
    refine zX_run (n' := 24) (ls' := [some (.inr (.inr (10, 0))), some (.inl p1)]) (st' := [.inl p1, .inr (.inr (64, 0))]) (σ' := σ) 3 rfl ?_
    refine zX_ald1 (L := 17) rfl (by decide) rfl (o5 a1) ?_
    refine zX_run (n' := 27) (ls' := [some (.inr (.inr (10, 0))), some (.inl p1)]) (st' := [.inl (zW ((σ.1 64 0 (p1.toNat)) - 2000))]) (σ' := σ) 2 rfl ?_
    exact zX_ret rfl rfl (h5 a1)
-- X10_hundredths
theorem zm_136 {d : Nat} {σ : zS} {Q : Option zV → zS → Prop} {p1 : Int}
    (o1 : (0 : Int) ≤ p1 ∧ p1 < (17 : Int))
    (h1 : σ.1 60 0 (p1.toNat) < 0 ∨ 4 < σ.1 60 0 (p1.toNat) → Q (some (.inl 50)) σ)
    (h2 : σ.1 60 0 (p1.toNat) = 0 → Q (some (.inl 0)) σ)
    (h3 : σ.1 60 0 (p1.toNat) = 1 → Q (some (.inl 40)) σ)
    (h4 : σ.1 60 0 (p1.toNat) = 2 → Q (some (.inl 20)) σ)
    (h5 : σ.1 60 0 (p1.toNat) = 3 → Q (some (.inl 50)) σ)
    (h6 : σ.1 60 0 (p1.toNat) = 4 → Q (some (.inl 20)) σ) :
    zM d 136 [.inr (.inr (10, 0)), .inl p1] σ Q := by
  refine zX_run (n' := 3) (ls' := [some (.inr (.inr (10, 0))), some (.inl p1)]) (st' := [.inl p1, .inr (.inr (60, 0))]) (σ' := σ) 3 rfl ?_
  refine zX_ald1 (L := 17) rfl (by decide) rfl o1 ?_
  refine zX_sw rfl (fun a1 => ?_) ⟨fun a1 => ?_, fun a1 => ?_, fun a1 => ?_, fun a1 => ?_, fun a1 => ?_, trivial⟩
  · skip
    refine zX_run (n' := 14) (ls' := [some (.inr (.inr (10, 0))), some (.inl p1)]) (st' := [.inl 50]) (σ' := σ) 1 rfl ?_
    exact zX_ret rfl rfl (h1 a1)
  · skip
    refine zX_run (n' := 6) (ls' := [some (.inr (.inr (10, 0))), some (.inl p1)]) (st' := [.inl 0]) (σ' := σ) 1 rfl ?_
    exact zX_ret rfl rfl (h2 a1)
  · skip
    refine zX_run (n' := 8) (ls' := [some (.inr (.inr (10, 0))), some (.inl p1)]) (st' := [.inl 40]) (σ' := σ) 1 rfl ?_
    exact zX_ret rfl rfl (h3 a1)
  · skip
    refine zX_run (n' := 10) (ls' := [some (.inr (.inr (10, 0))), some (.inl p1)]) (st' := [.inl 20]) (σ' := σ) 1 rfl ?_
    exact zX_ret rfl rfl (h4 a1)
  · skip
    refine zX_run (n' := 14) (ls' := [some (.inr (.inr (10, 0))), some (.inl p1)]) (st' := [.inl 50]) (σ' := σ) 1 rfl ?_
    exact zX_ret rfl rfl (h5 a1)
  · skip
    refine zX_run (n' := 12) (ls' := [some (.inr (.inr (10, 0))), some (.inl p1)]) (st' := [.inl 20]) (σ' := σ) 1 rfl ?_
    exact zX_ret rfl rfl (h6 a1)
-- X10_holdTold
theorem zm_137 {d : Nat} {σ : zS} {Q : Option zV → zS → Prop} {p1 : Int} {p2 : Int}
    (o1 : ¬ p1 < 0 → ¬ σ.1 10 0 4 ≤ p1 → p2 = 0 → (0 : Int) ≤ p1 ∧ p1 < (17 : Int))
    (o2 : ¬ p1 < 0 → ¬ σ.1 10 0 4 ≤ p1 → p2 = 1 → (0 : Int) ≤ p1 ∧ p1 < (17 : Int))
    (o3 : ¬ p1 < 0 → ¬ σ.1 10 0 4 ≤ p1 → p2 = 2 → (0 : Int) ≤ p1 ∧ p1 < (17 : Int))
    (o4 : ¬ p1 < 0 → ¬ σ.1 10 0 4 ≤ p1 → p2 = 3 → (0 : Int) ≤ p1 ∧ p1 < (17 : Int))
    (o5 : ¬ p1 < 0 → ¬ σ.1 10 0 4 ≤ p1 → p2 = 4 → (0 : Int) ≤ p1 ∧ p1 < (17 : Int))
    (o6 : ¬ p1 < 0 → ¬ σ.1 10 0 4 ≤ p1 → p2 = 5 → (0 : Int) ≤ p1 ∧ p1 < (17 : Int))
    (o7 : ¬ p1 < 0 → ¬ σ.1 10 0 4 ≤ p1 → p2 = 5 → σ.1 60 0 (p1.toNat) < 2 ∨ 5 < σ.1 60 0 (p1.toNat) → (0 : Int) ≤ p1 ∧ p1 < (17 : Int))
    (o8 : ¬ p1 < 0 → ¬ σ.1 10 0 4 ≤ p1 → p2 = 5 → σ.1 60 0 (p1.toNat) = 3 → (0 : Int) ≤ p1 ∧ p1 < (17 : Int))
    (o9 : ¬ p1 < 0 → ¬ σ.1 10 0 4 ≤ p1 → p2 = 5 → σ.1 60 0 (p1.toNat) = 4 → (0 : Int) ≤ p1 ∧ p1 < (17 : Int))
    (o10 : ¬ p1 < 0 → ¬ σ.1 10 0 4 ≤ p1 → p2 = 5 → σ.1 60 0 (p1.toNat) = 5 → (0 : Int) ≤ p1 ∧ p1 < (17 : Int))
    (o11 : ¬ p1 < 0 → ¬ σ.1 10 0 4 ≤ p1 → p2 = 6 → (0 : Int) ≤ p1 ∧ p1 < (17 : Int))
    (h1 : p1 < 0 → Q (some (.inl (-2))) σ)
    (h2 : ¬ p1 < 0 → σ.1 10 0 4 ≤ p1 → Q (some (.inl (-2))) σ)
    (h3 : ¬ p1 < 0 → ¬ σ.1 10 0 4 ≤ p1 → p2 < 0 ∨ 6 < p2 → Q (some (.inl (-2))) σ)
    (h4 : ¬ p1 < 0 → ¬ σ.1 10 0 4 ≤ p1 → p2 = 0 → Q (some (.inl (σ.1 60 0 (p1.toNat)))) σ)
    (h5 : ¬ p1 < 0 → ¬ σ.1 10 0 4 ≤ p1 → p2 = 1 → Q (some (.inl (σ.1 61 0 (p1.toNat)))) σ)
    (h6 : ¬ p1 < 0 → ¬ σ.1 10 0 4 ≤ p1 → p2 = 2 → Q (some (.inl (σ.1 62 0 (p1.toNat)))) σ)
    (h7 : ¬ p1 < 0 → ¬ σ.1 10 0 4 ≤ p1 → p2 = 3 → Q (some (.inl (σ.1 63 0 (p1.toNat)))) σ)
    (h8 : ¬ p1 < 0 → ¬ σ.1 10 0 4 ≤ p1 → p2 = 4 → Q (some (.inl (σ.1 64 0 (p1.toNat)))) σ)
    (h9 : ¬ p1 < 0 → ¬ σ.1 10 0 4 ≤ p1 → p2 = 5 → σ.1 60 0 (p1.toNat) < 2 ∨ 5 < σ.1 60 0 (p1.toNat) → Q (some (.inl (σ.1 64 0 (p1.toNat)))) σ)
    (h10 : ¬ p1 < 0 → ¬ σ.1 10 0 4 ≤ p1 → p2 = 5 → σ.1 60 0 (p1.toNat) = 2 → Q (some (.inl 0)) σ)
    (h11 : ¬ p1 < 0 → ¬ σ.1 10 0 4 ≤ p1 → p2 = 5 → σ.1 60 0 (p1.toNat) = 3 → Q (some (.inl (zW ((σ.1 64 0 (p1.toNat)) - 1000)))) σ)
    (h12 : ¬ p1 < 0 → ¬ σ.1 10 0 4 ≤ p1 → p2 = 5 → σ.1 60 0 (p1.toNat) = 4 → Q (some (.inl (zW ((σ.1 64 0 (p1.toNat)) + 1)))) σ)
    (h13 : ¬ p1 < 0 → ¬ σ.1 10 0 4 ≤ p1 → p2 = 5 → σ.1 60 0 (p1.toNat) = 5 → Q (some (.inl (zW ((σ.1 64 0 (p1.toNat)) - 2000)))) σ)
    (h14 : ¬ p1 < 0 → ¬ σ.1 10 0 4 ≤ p1 → p2 = 6 → σ.1 60 0 (p1.toNat) < 0 ∨ 4 < σ.1 60 0 (p1.toNat) → Q (some (.inl 50)) σ)
    (h15 : ¬ p1 < 0 → ¬ σ.1 10 0 4 ≤ p1 → p2 = 6 → σ.1 60 0 (p1.toNat) = 0 → Q (some (.inl 0)) σ)
    (h16 : ¬ p1 < 0 → ¬ σ.1 10 0 4 ≤ p1 → p2 = 6 → σ.1 60 0 (p1.toNat) = 1 → Q (some (.inl 40)) σ)
    (h17 : ¬ p1 < 0 → ¬ σ.1 10 0 4 ≤ p1 → p2 = 6 → σ.1 60 0 (p1.toNat) = 2 → Q (some (.inl 20)) σ)
    (h18 : ¬ p1 < 0 → ¬ σ.1 10 0 4 ≤ p1 → p2 = 6 → σ.1 60 0 (p1.toNat) = 3 → Q (some (.inl 50)) σ)
    (h19 : ¬ p1 < 0 → ¬ σ.1 10 0 4 ≤ p1 → p2 = 6 → σ.1 60 0 (p1.toNat) = 4 → Q (some (.inl 20)) σ) :
    zM (d + 1) 137 [.inr (.inr (10, 0)), .inl p1, .inl p2] σ Q := by
  refine zX_run (n' := 2) (ls' := [some (.inr (.inr (10, 0))), some (.inl p1), some (.inl p2)]) (st' := [.inl p1, .inr (.inr (10, 0))]) (σ' := σ) 2 rfl ?_
  refine zX_call rfl rfl ?_
  refine zm_121 (fun a1 => ?_) (fun a2 a3 => ?_) (fun a4 a5 => ?_)
  · skip
    refine zX_run (n' := 5) (ls' := [some (.inr (.inr (10, 0))), some (.inl p1), some (.inl p2)]) (st' := [.inl (-2)]) (σ' := σ) 2 rfl ?_
    exact zX_ret rfl rfl (h1 a1)
  · skip
    refine zX_run (n' := 5) (ls' := [some (.inr (.inr (10, 0))), some (.inl p1), some (.inl p2)]) (st' := [.inl (-2)]) (σ' := σ) 2 rfl ?_
    exact zX_ret rfl rfl (h2 a2 a3)
  · skip
    refine zX_run (n' := 7) (ls' := [some (.inr (.inr (10, 0))), some (.inl p1), some (.inl p2)]) (st' := [.inl p2]) (σ' := σ) 2 rfl ?_
    refine zX_sw rfl (fun a6 => ?_) ⟨fun a6 => ?_, fun a6 => ?_, fun a6 => ?_, fun a6 => ?_, fun a6 => ?_, fun a6 => ?_, fun a6 => ?_, trivial⟩
    · skip
      refine zX_run (n' := 42) (ls' := [some (.inr (.inr (10, 0))), some (.inl p1), some (.inl p2)]) (st' := [.inl (-2)]) (σ' := σ) 1 rfl ?_
      exact zX_ret rfl rfl (h3 a4 a5 a6)
    · skip
      refine zX_run (n' := 11) (ls' := [some (.inr (.inr (10, 0))), some (.inl p1), some (.inl p2)]) (st' := [.inl p1, .inr (.inr (60, 0))]) (σ' := σ) 3 rfl ?_
      refine zX_ald1 (L := 17) rfl (by decide) rfl (o1 a4 a5 a6) ?_
      exact zX_ret rfl rfl (h4 a4 a5 a6)
    · skip
      refine zX_run (n' := 16) (ls' := [some (.inr (.inr (10, 0))), some (.inl p1), some (.inl p2)]) (st' := [.inl p1, .inr (.inr (61, 0))]) (σ' := σ) 3 rfl ?_
      refine zX_ald1 (L := 17) rfl (by decide) rfl (o2 a4 a5 a6) ?_
      exact zX_ret rfl rfl (h5 a4 a5 a6)
    · skip
      refine zX_run (n' := 21) (ls' := [some (.inr (.inr (10, 0))), some (.inl p1), some (.inl p2)]) (st' := [.inl p1, .inr (.inr (62, 0))]) (σ' := σ) 3 rfl ?_
      refine zX_ald1 (L := 17) rfl (by decide) rfl (o3 a4 a5 a6) ?_
      exact zX_ret rfl rfl (h6 a4 a5 a6)
    · skip
      refine zX_run (n' := 26) (ls' := [some (.inr (.inr (10, 0))), some (.inl p1), some (.inl p2)]) (st' := [.inl p1, .inr (.inr (63, 0))]) (σ' := σ) 3 rfl ?_
      refine zX_ald1 (L := 17) rfl (by decide) rfl (o4 a4 a5 a6) ?_
      exact zX_ret rfl rfl (h7 a4 a5 a6)
    · skip
      refine zX_run (n' := 31) (ls' := [some (.inr (.inr (10, 0))), some (.inl p1), some (.inl p2)]) (st' := [.inl p1, .inr (.inr (64, 0))]) (σ' := σ) 3 rfl ?_
      refine zX_ald1 (L := 17) rfl (by decide) rfl (o5 a4 a5 a6) ?_
      exact zX_ret rfl rfl (h8 a4 a5 a6)
    · skip
      refine zX_run (n' := 35) (ls' := [some (.inr (.inr (10, 0))), some (.inl p1), some (.inl p2)]) (st' := [.inl p1, .inr (.inr (10, 0))]) (σ' := σ) 2 rfl ?_
      refine zX_call rfl rfl ?_
      refine zm_135 (o6 a4 a5 a6) (o7 a4 a5 a6) (o8 a4 a5 a6) (o9 a4 a5 a6) (o10 a4 a5 a6) (fun a7 => ?_) (fun a8 => ?_) (fun a9 => ?_) (fun a10 => ?_) (fun a11 => ?_)
      · skip
        exact zX_ret rfl rfl (h9 a4 a5 a6 a7)
      · skip
        exact zX_ret rfl rfl (h10 a4 a5 a6 a8)
      · skip
        exact zX_ret rfl rfl (h11 a4 a5 a6 a9)
      · skip
        exact zX_ret rfl rfl (h12 a4 a5 a6 a10)
      · skip
        exact zX_ret rfl rfl (h13 a4 a5 a6 a11)
    · skip
      refine zX_run (n' := 39) (ls' := [some (.inr (.inr (10, 0))), some (.inl p1), some (.inl p2)]) (st' := [.inl p1, .inr (.inr (10, 0))]) (σ' := σ) 2 rfl ?_
      refine zX_call rfl rfl ?_
      refine zm_136 (o11 a4 a5 a6) (fun a12 => ?_) (fun a13 => ?_) (fun a14 => ?_) (fun a15 => ?_) (fun a16 => ?_) (fun a17 => ?_)
      · skip
        exact zX_ret rfl rfl (h14 a4 a5 a6 a12)
      · skip
        exact zX_ret rfl rfl (h15 a4 a5 a6 a13)
      · skip
        exact zX_ret rfl rfl (h16 a4 a5 a6 a14)
      · skip
        exact zX_ret rfl rfl (h17 a4 a5 a6 a15)
      · skip
        exact zX_ret rfl rfl (h18 a4 a5 a6 a16)
      · skip
        exact zX_ret rfl rfl (h19 a4 a5 a6 a17)
-- X10_asks
theorem zm_138 {d : Nat} {σ : zS} {Q : Option zV → zS → Prop} {p1 : Int} {p2 : Int}
    (o1 : (0 : Int) ≤ p1 ∧ p1 < (17 : Int))
    (o2 : zW (p2 - zW (zW (p2.tdiv 12) * 12)) ≤ 2 → (0 : Int) ≤ p1 ∧ p1 < (17 : Int))
    (o3 : zW (p2 - zW (zW (p2.tdiv 12) * 12)) ≤ 2 → σ.1 60 0 (p1.toNat) = 2 → (0 : Int) ≤ p1 ∧ p1 < (17 : Int))
    (o4 : zW (p2 - zW (zW (p2.tdiv 12) * 12)) ≤ 2 → σ.1 60 0 (p1.toNat) = 2 → (0 : Int) ≤ zW ((zW (7 * p2)) + (σ.1 62 0 (p1.toNat))) ∧ zW ((zW (7 * p2)) + (σ.1 62 0 (p1.toNat))) < (672 : Int))
    (o5 : ¬ zW (p2 - zW (zW (p2.tdiv 12) * 12)) ≤ 2 → 9 ≤ zW (p2 - zW (zW (p2.tdiv 12) * 12)) → (0 : Int) ≤ p1 ∧ p1 < (17 : Int))
    (o6 : ¬ zW (p2 - zW (zW (p2.tdiv 12) * 12)) ≤ 2 → 9 ≤ zW (p2 - zW (zW (p2.tdiv 12) * 12)) → σ.1 60 0 (p1.toNat) = 2 → (0 : Int) ≤ p1 ∧ p1 < (17 : Int))
    (o7 : ¬ zW (p2 - zW (zW (p2.tdiv 12) * 12)) ≤ 2 → 9 ≤ zW (p2 - zW (zW (p2.tdiv 12) * 12)) → σ.1 60 0 (p1.toNat) = 2 → (0 : Int) ≤ zW ((zW (7 * p2)) + (σ.1 62 0 (p1.toNat))) ∧ zW ((zW (7 * p2)) + (σ.1 62 0 (p1.toNat))) < (672 : Int))
    (o8 : ¬ zW (p2 - zW (zW (p2.tdiv 12) * 12)) ≤ 2 → ¬ 9 ≤ zW (p2 - zW (zW (p2.tdiv 12) * 12)) → (0 : Int) ≤ p1 ∧ p1 < (17 : Int))
    (o9 : ¬ zW (p2 - zW (zW (p2.tdiv 12) * 12)) ≤ 2 → ¬ 9 ≤ zW (p2 - zW (zW (p2.tdiv 12) * 12)) → σ.1 60 0 (p1.toNat) = 2 → (0 : Int) ≤ p1 ∧ p1 < (17 : Int))
    (o10 : ¬ zW (p2 - zW (zW (p2.tdiv 12) * 12)) ≤ 2 → ¬ 9 ≤ zW (p2 - zW (zW (p2.tdiv 12) * 12)) → σ.1 60 0 (p1.toNat) = 2 → (0 : Int) ≤ zW ((zW (7 * p2)) + (σ.1 62 0 (p1.toNat))) ∧ zW ((zW (7 * p2)) + (σ.1 62 0 (p1.toNat))) < (672 : Int))
    (h1 : zW (p2 - zW (zW (p2.tdiv 12) * 12)) ≤ 2 → σ.1 60 0 (p1.toNat) < 1 ∨ 5 < σ.1 60 0 (p1.toNat) → Q (some (.inl (σ.1 63 0 (p1.toNat)))) σ)
    (h2 : zW (p2 - zW (zW (p2.tdiv 12) * 12)) ≤ 2 → σ.1 60 0 (p1.toNat) = 1 → Q (some (.inl 0)) σ)
    (h3 : zW (p2 - zW (zW (p2.tdiv 12) * 12)) ≤ 2 → σ.1 60 0 (p1.toNat) = 2 → Q (some (.inl (zW ((zW ((σ.1 63 0 (p1.toNat)) * (σ.1 100 0 ((zW ((zW (7 * p2)) + (σ.1 62 0 (p1.toNat)))).toNat)))).tdiv 100)))) σ)
    (h4 : zW (p2 - zW (zW (p2.tdiv 12) * 12)) ≤ 2 → σ.1 60 0 (p1.toNat) = 3 → Q (some (.inl (σ.1 63 0 (p1.toNat)))) σ)
    (h5 : zW (p2 - zW (zW (p2.tdiv 12) * 12)) ≤ 2 → σ.1 60 0 (p1.toNat) = 4 → Q (some (.inl 0)) σ)
    (h6 : zW (p2 - zW (zW (p2.tdiv 12) * 12)) ≤ 2 → σ.1 60 0 (p1.toNat) = 5 → zW (p2 - zW (zW (p2.tdiv 12) * 12)) = 6 → Q (some (.inl (zW ((σ.1 63 0 (p1.toNat)) + (zW ((σ.1 63 0 (p1.toNat)).tdiv 2)))))) σ)
    (h7 : zW (p2 - zW (zW (p2.tdiv 12) * 12)) ≤ 2 → σ.1 60 0 (p1.toNat) = 5 → ¬ zW (p2 - zW (zW (p2.tdiv 12) * 12)) = 6 → ¬ zW (p2 - zW (zW (p2.tdiv 12) * 12)) = 7 → Q (some (.inl (σ.1 63 0 (p1.toNat)))) σ)
    (h8 : zW (p2 - zW (zW (p2.tdiv 12) * 12)) ≤ 2 → σ.1 60 0 (p1.toNat) = 5 → ¬ zW (p2 - zW (zW (p2.tdiv 12) * 12)) = 6 → zW (p2 - zW (zW (p2.tdiv 12) * 12)) = 7 → Q (some (.inl (zW ((σ.1 63 0 (p1.toNat)) + (zW ((σ.1 63 0 (p1.toNat)).tdiv 2)))))) σ)
    (h9 : ¬ zW (p2 - zW (zW (p2.tdiv 12) * 12)) ≤ 2 → 9 ≤ zW (p2 - zW (zW (p2.tdiv 12) * 12)) → σ.1 60 0 (p1.toNat) < 1 ∨ 5 < σ.1 60 0 (p1.toNat) → Q (some (.inl (σ.1 63 0 (p1.toNat)))) σ)
    (h10 : ¬ zW (p2 - zW (zW (p2.tdiv 12) * 12)) ≤ 2 → 9 ≤ zW (p2 - zW (zW (p2.tdiv 12) * 12)) → σ.1 60 0 (p1.toNat) = 1 → Q (some (.inl 0)) σ)
    (h11 : ¬ zW (p2 - zW (zW (p2.tdiv 12) * 12)) ≤ 2 → 9 ≤ zW (p2 - zW (zW (p2.tdiv 12) * 12)) → σ.1 60 0 (p1.toNat) = 2 → Q (some (.inl (zW ((zW ((σ.1 63 0 (p1.toNat)) * (σ.1 100 0 ((zW ((zW (7 * p2)) + (σ.1 62 0 (p1.toNat)))).toNat)))).tdiv 100)))) σ)
    (h12 : ¬ zW (p2 - zW (zW (p2.tdiv 12) * 12)) ≤ 2 → 9 ≤ zW (p2 - zW (zW (p2.tdiv 12) * 12)) → σ.1 60 0 (p1.toNat) = 3 → Q (some (.inl (σ.1 63 0 (p1.toNat)))) σ)
    (h13 : ¬ zW (p2 - zW (zW (p2.tdiv 12) * 12)) ≤ 2 → 9 ≤ zW (p2 - zW (zW (p2.tdiv 12) * 12)) → σ.1 60 0 (p1.toNat) = 4 → Q (some (.inl 0)) σ)
    (h14 : ¬ zW (p2 - zW (zW (p2.tdiv 12) * 12)) ≤ 2 → 9 ≤ zW (p2 - zW (zW (p2.tdiv 12) * 12)) → σ.1 60 0 (p1.toNat) = 5 → zW (p2 - zW (zW (p2.tdiv 12) * 12)) = 6 → Q (some (.inl (zW ((σ.1 63 0 (p1.toNat)) + (zW ((σ.1 63 0 (p1.toNat)).tdiv 2)))))) σ)
    (h15 : ¬ zW (p2 - zW (zW (p2.tdiv 12) * 12)) ≤ 2 → 9 ≤ zW (p2 - zW (zW (p2.tdiv 12) * 12)) → σ.1 60 0 (p1.toNat) = 5 → ¬ zW (p2 - zW (zW (p2.tdiv 12) * 12)) = 6 → ¬ zW (p2 - zW (zW (p2.tdiv 12) * 12)) = 7 → Q (some (.inl (σ.1 63 0 (p1.toNat)))) σ)
    (h16 : ¬ zW (p2 - zW (zW (p2.tdiv 12) * 12)) ≤ 2 → 9 ≤ zW (p2 - zW (zW (p2.tdiv 12) * 12)) → σ.1 60 0 (p1.toNat) = 5 → ¬ zW (p2 - zW (zW (p2.tdiv 12) * 12)) = 6 → zW (p2 - zW (zW (p2.tdiv 12) * 12)) = 7 → Q (some (.inl (zW ((σ.1 63 0 (p1.toNat)) + (zW ((σ.1 63 0 (p1.toNat)).tdiv 2)))))) σ)
    (h17 : ¬ zW (p2 - zW (zW (p2.tdiv 12) * 12)) ≤ 2 → ¬ 9 ≤ zW (p2 - zW (zW (p2.tdiv 12) * 12)) → σ.1 60 0 (p1.toNat) < 1 ∨ 5 < σ.1 60 0 (p1.toNat) → Q (some (.inl (σ.1 63 0 (p1.toNat)))) σ)
    (h18 : ¬ zW (p2 - zW (zW (p2.tdiv 12) * 12)) ≤ 2 → ¬ 9 ≤ zW (p2 - zW (zW (p2.tdiv 12) * 12)) → σ.1 60 0 (p1.toNat) = 1 → Q (some (.inl (σ.1 63 0 (p1.toNat)))) σ)
    (h19 : ¬ zW (p2 - zW (zW (p2.tdiv 12) * 12)) ≤ 2 → ¬ 9 ≤ zW (p2 - zW (zW (p2.tdiv 12) * 12)) → σ.1 60 0 (p1.toNat) = 2 → Q (some (.inl (zW ((zW ((σ.1 63 0 (p1.toNat)) * (σ.1 100 0 ((zW ((zW (7 * p2)) + (σ.1 62 0 (p1.toNat)))).toNat)))).tdiv 100)))) σ)
    (h20 : ¬ zW (p2 - zW (zW (p2.tdiv 12) * 12)) ≤ 2 → ¬ 9 ≤ zW (p2 - zW (zW (p2.tdiv 12) * 12)) → σ.1 60 0 (p1.toNat) = 3 → Q (some (.inl (σ.1 63 0 (p1.toNat)))) σ)
    (h21 : ¬ zW (p2 - zW (zW (p2.tdiv 12) * 12)) ≤ 2 → ¬ 9 ≤ zW (p2 - zW (zW (p2.tdiv 12) * 12)) → σ.1 60 0 (p1.toNat) = 4 → Q (some (.inl (zW ((σ.1 63 0 (p1.toNat)) + (zW ((σ.1 63 0 (p1.toNat)).tdiv 10)))))) σ)
    (h22 : ¬ zW (p2 - zW (zW (p2.tdiv 12) * 12)) ≤ 2 → ¬ 9 ≤ zW (p2 - zW (zW (p2.tdiv 12) * 12)) → σ.1 60 0 (p1.toNat) = 5 → zW (p2 - zW (zW (p2.tdiv 12) * 12)) = 6 → Q (some (.inl (zW ((σ.1 63 0 (p1.toNat)) + (zW ((σ.1 63 0 (p1.toNat)).tdiv 2)))))) σ)
    (h23 : ¬ zW (p2 - zW (zW (p2.tdiv 12) * 12)) ≤ 2 → ¬ 9 ≤ zW (p2 - zW (zW (p2.tdiv 12) * 12)) → σ.1 60 0 (p1.toNat) = 5 → ¬ zW (p2 - zW (zW (p2.tdiv 12) * 12)) = 6 → ¬ zW (p2 - zW (zW (p2.tdiv 12) * 12)) = 7 → Q (some (.inl (σ.1 63 0 (p1.toNat)))) σ)
    (h24 : ¬ zW (p2 - zW (zW (p2.tdiv 12) * 12)) ≤ 2 → ¬ 9 ≤ zW (p2 - zW (zW (p2.tdiv 12) * 12)) → σ.1 60 0 (p1.toNat) = 5 → ¬ zW (p2 - zW (zW (p2.tdiv 12) * 12)) = 6 → zW (p2 - zW (zW (p2.tdiv 12) * 12)) = 7 → Q (some (.inl (zW ((σ.1 63 0 (p1.toNat)) + (zW ((σ.1 63 0 (p1.toNat)).tdiv 2)))))) σ) :
    zM d 138 [.inr (.inr (10, 0)), .inl p1, .inl p2] σ Q := by
  refine zX_run (n' := 3) (ls' := [some (.inr (.inr (10, 0))), some (.inl p1), some (.inl p2), none, none, none]) (st' := [.inl p1, .inr (.inr (63, 0))]) (σ' := σ) 3 rfl ?_
  refine zX_ald1 (L := 17) rfl (by decide) rfl o1 ?_
  refine zX_run (n' := 11) (ls' := [some (.inr (.inr (10, 0))), some (.inl p1), some (.inl p2), some (.inl (σ.1 63 0 (p1.toNat))), some (.inl (zW (p2 - zW (zW (p2.tdiv 12) * 12)))), none]) (st' := [.inl 2, .inl (zW (p2 - zW (zW (p2.tdiv 12) * 12)))]) (σ' := σ) 7 rfl ?_
  refine zX_c5 rfl (fun a1 => ?_) (fun a1 => ?_)
  · skip
    refine zX_run (n' := 22) (ls' := [some (.inr (.inr (10, 0))), some (.inl p1), some (.inl p2), some (.inl (σ.1 63 0 (p1.toNat))), some (.inl (zW (p2 - zW (zW (p2.tdiv 12) * 12)))), some (.inl 0)]) (st' := [.inl p1, .inr (.inr (60, 0))]) (σ' := σ) 5 rfl ?_
    refine zX_ald1 (L := 17) rfl (by decide) rfl (o2 a1) ?_
    refine zX_sw rfl (fun a2 => ?_) ⟨fun a2 => ?_, fun a2 => ?_, fun a2 => ?_, fun a2 => ?_, fun a2 => ?_, trivial⟩
    · skip
      refine zX_run (n' := 63) (ls' := [some (.inr (.inr (10, 0))), some (.inl p1), some (.inl p2), some (.inl (σ.1 63 0 (p1.toNat))), some (.inl (zW (p2 - zW (zW (p2.tdiv 12) * 12)))), some (.inl 0)]) (st' := [.inl (σ.1 63 0 (p1.toNat))]) (σ' := σ) 1 rfl ?_
      exact zX_ret rfl rfl (h1 a1 a2)
    · skip
      refine zX_run (n' := 25) (ls' := [some (.inr (.inr (10, 0))), some (.inl p1), some (.inl p2), some (.inl (σ.1 63 0 (p1.toNat))), some (.inl (zW (p2 - zW (zW (p2.tdiv 12) * 12)))), some (.inl 0)]) (st' := [.inl 0]) (σ' := σ) 1 rfl ?_
      exact zX_ret rfl rfl (h2 a1 a2)
    · skip
      refine zX_run (n' := 35) (ls' := [some (.inr (.inr (10, 0))), some (.inl p1), some (.inl p2), some (.inl (σ.1 63 0 (p1.toNat))), some (.inl (zW (p2 - zW (zW (p2.tdiv 12) * 12)))), some (.inl 0)]) (st' := [.inl p1, .inr (.inr (62, 0)), .inl (zW (7 * p2)), .inr (.inr (100, 0)), .inl (σ.1 63 0 (p1.toNat))]) (σ' := σ) 9 rfl ?_
      refine zX_ald1 (L := 17) rfl (by decide) rfl (o3 a1 a2) ?_
      refine zX_run (n' := 37) (ls' := [some (.inr (.inr (10, 0))), some (.inl p1), some (.inl p2), some (.inl (σ.1 63 0 (p1.toNat))), some (.inl (zW (p2 - zW (zW (p2.tdiv 12) * 12)))), some (.inl 0)]) (st' := [.inl (zW ((zW (7 * p2)) + (σ.1 62 0 (p1.toNat)))), .inr (.inr (100, 0)), .inl (σ.1 63 0 (p1.toNat))]) (σ' := σ) 1 rfl ?_
      refine zX_ald1 (L := 672) rfl (by decide) rfl (o4 a1 a2) ?_
      refine zX_run (n' := 41) (ls' := [some (.inr (.inr (10, 0))), some (.inl p1), some (.inl p2), some (.inl (σ.1 63 0 (p1.toNat))), some (.inl (zW (p2 - zW (zW (p2.tdiv 12) * 12)))), some (.inl 0)]) (st' := [.inl (zW ((zW ((σ.1 63 0 (p1.toNat)) * (σ.1 100 0 ((zW ((zW (7 * p2)) + (σ.1 62 0 (p1.toNat)))).toNat)))).tdiv 100))]) (σ' := σ) 3 rfl ?_
      exact zX_ret rfl rfl (h3 a1 a2)
    · skip
      refine zX_run (n' := 63) (ls' := [some (.inr (.inr (10, 0))), some (.inl p1), some (.inl p2), some (.inl (σ.1 63 0 (p1.toNat))), some (.inl (zW (p2 - zW (zW (p2.tdiv 12) * 12)))), some (.inl 0)]) (st' := [.inl (σ.1 63 0 (p1.toNat))]) (σ' := σ) 1 rfl ?_
      exact zX_ret rfl rfl (h4 a1 a2)
    · skip
      refine zX_run (n' := 47) (ls' := [some (.inr (.inr (10, 0))), some (.inl p1), some (.inl p2), some (.inl (σ.1 63 0 (p1.toNat))), some (.inl (zW (p2 - zW (zW (p2.tdiv 12) * 12)))), some (.inl 0)]) (st' := [.inl 0]) (σ' := σ) 5 rfl ?_
      exact zX_ret rfl rfl (h5 a1 a2)
    · skip
      refine zX_run (n' := 50) (ls' := [some (.inr (.inr (10, 0))), some (.inl p1), some (.inl p2), some (.inl (σ.1 63 0 (p1.toNat))), some (.inl (zW (p2 - zW (zW (p2.tdiv 12) * 12)))), some (.inl 0)]) (st' := [.inl 6, .inl (zW (p2 - zW (zW (p2.tdiv 12) * 12)))]) (σ' := σ) 2 rfl ?_
      refine zX_c0 rfl (fun a3 => ?_) (fun a3 => ?_)
      · skip
        refine zX_run (n' := 61) (ls' := [some (.inr (.inr (10, 0))), some (.inl p1), some (.inl p2), some (.inl (σ.1 63 0 (p1.toNat))), some (.inl (zW (p2 - zW (zW (p2.tdiv 12) * 12)))), some (.inl 0)]) (st' := [.inl (zW ((σ.1 63 0 (p1.toNat)) + (zW ((σ.1 63 0 (p1.toNat)).tdiv 2))))]) (σ' := σ) 6 rfl ?_
        exact zX_ret rfl rfl (h6 a1 a2 a3)
      · skip
        refine zX_run (n' := 53) (ls' := [some (.inr (.inr (10, 0))), some (.inl p1), some (.inl p2), some (.inl (σ.1 63 0 (p1.toNat))), some (.inl (zW (p2 - zW (zW (p2.tdiv 12) * 12)))), some (.inl 0)]) (st' := [.inl 7, .inl (zW (p2 - zW (zW (p2.tdiv 12) * 12)))]) (σ' := σ) 2 rfl ?_
        refine zX_c1 rfl (fun a4 => ?_) (fun a4 => ?_)
        · skip
          refine zX_run (n' := 61) (ls' := [some (.inr (.inr (10, 0))), some (.inl p1), some (.inl p2), some (.inl (σ.1 63 0 (p1.toNat))), some (.inl (zW (p2 - zW (zW (p2.tdiv 12) * 12)))), some (.inl 0)]) (st' := [.inl (σ.1 63 0 (p1.toNat))]) (σ' := σ) 1 rfl ?_
          exact zX_ret rfl rfl (h7 a1 a2 a3 a4)
        · skip
          refine zX_run (n' := 61) (ls' := [some (.inr (.inr (10, 0))), some (.inl p1), some (.inl p2), some (.inl (σ.1 63 0 (p1.toNat))), some (.inl (zW (p2 - zW (zW (p2.tdiv 12) * 12)))), some (.inl 0)]) (st' := [.inl (zW ((σ.1 63 0 (p1.toNat)) + (zW ((σ.1 63 0 (p1.toNat)).tdiv 2))))]) (σ' := σ) 6 rfl ?_
          exact zX_ret rfl rfl (h8 a1 a2 a3 a4)
  · skip
    refine zX_run (n' := 14) (ls' := [some (.inr (.inr (10, 0))), some (.inl p1), some (.inl p2), some (.inl (σ.1 63 0 (p1.toNat))), some (.inl (zW (p2 - zW (zW (p2.tdiv 12) * 12)))), none]) (st' := [.inl 9, .inl (zW (p2 - zW (zW (p2.tdiv 12) * 12)))]) (σ' := σ) 2 rfl ?_
    refine zX_c3 rfl (fun a5 => ?_) (fun a5 => ?_)
    · skip
      refine zX_run (n' := 22) (ls' := [some (.inr (.inr (10, 0))), some (.inl p1), some (.inl p2), some (.inl (σ.1 63 0 (p1.toNat))), some (.inl (zW (p2 - zW (zW (p2.tdiv 12) * 12)))), some (.inl 0)]) (st' := [.inl p1, .inr (.inr (60, 0))]) (σ' := σ) 5 rfl ?_
      refine zX_ald1 (L := 17) rfl (by decide) rfl (o5 a1 a5) ?_
      refine zX_sw rfl (fun a6 => ?_) ⟨fun a6 => ?_, fun a6 => ?_, fun a6 => ?_, fun a6 => ?_, fun a6 => ?_, trivial⟩
      · skip
        refine zX_run (n' := 63) (ls' := [some (.inr (.inr (10, 0))), some (.inl p1), some (.inl p2), some (.inl (σ.1 63 0 (p1.toNat))), some (.inl (zW (p2 - zW (zW (p2.tdiv 12) * 12)))), some (.inl 0)]) (st' := [.inl (σ.1 63 0 (p1.toNat))]) (σ' := σ) 1 rfl ?_
        exact zX_ret rfl rfl (h9 a1 a5 a6)
      · skip
        refine zX_run (n' := 25) (ls' := [some (.inr (.inr (10, 0))), some (.inl p1), some (.inl p2), some (.inl (σ.1 63 0 (p1.toNat))), some (.inl (zW (p2 - zW (zW (p2.tdiv 12) * 12)))), some (.inl 0)]) (st' := [.inl 0]) (σ' := σ) 1 rfl ?_
        exact zX_ret rfl rfl (h10 a1 a5 a6)
      · skip
        refine zX_run (n' := 35) (ls' := [some (.inr (.inr (10, 0))), some (.inl p1), some (.inl p2), some (.inl (σ.1 63 0 (p1.toNat))), some (.inl (zW (p2 - zW (zW (p2.tdiv 12) * 12)))), some (.inl 0)]) (st' := [.inl p1, .inr (.inr (62, 0)), .inl (zW (7 * p2)), .inr (.inr (100, 0)), .inl (σ.1 63 0 (p1.toNat))]) (σ' := σ) 9 rfl ?_
        refine zX_ald1 (L := 17) rfl (by decide) rfl (o6 a1 a5 a6) ?_
        refine zX_run (n' := 37) (ls' := [some (.inr (.inr (10, 0))), some (.inl p1), some (.inl p2), some (.inl (σ.1 63 0 (p1.toNat))), some (.inl (zW (p2 - zW (zW (p2.tdiv 12) * 12)))), some (.inl 0)]) (st' := [.inl (zW ((zW (7 * p2)) + (σ.1 62 0 (p1.toNat)))), .inr (.inr (100, 0)), .inl (σ.1 63 0 (p1.toNat))]) (σ' := σ) 1 rfl ?_
        refine zX_ald1 (L := 672) rfl (by decide) rfl (o7 a1 a5 a6) ?_
        refine zX_run (n' := 41) (ls' := [some (.inr (.inr (10, 0))), some (.inl p1), some (.inl p2), some (.inl (σ.1 63 0 (p1.toNat))), some (.inl (zW (p2 - zW (zW (p2.tdiv 12) * 12)))), some (.inl 0)]) (st' := [.inl (zW ((zW ((σ.1 63 0 (p1.toNat)) * (σ.1 100 0 ((zW ((zW (7 * p2)) + (σ.1 62 0 (p1.toNat)))).toNat)))).tdiv 100))]) (σ' := σ) 3 rfl ?_
        exact zX_ret rfl rfl (h11 a1 a5 a6)
      · skip
        refine zX_run (n' := 63) (ls' := [some (.inr (.inr (10, 0))), some (.inl p1), some (.inl p2), some (.inl (σ.1 63 0 (p1.toNat))), some (.inl (zW (p2 - zW (zW (p2.tdiv 12) * 12)))), some (.inl 0)]) (st' := [.inl (σ.1 63 0 (p1.toNat))]) (σ' := σ) 1 rfl ?_
        exact zX_ret rfl rfl (h12 a1 a5 a6)
      · skip
        refine zX_run (n' := 47) (ls' := [some (.inr (.inr (10, 0))), some (.inl p1), some (.inl p2), some (.inl (σ.1 63 0 (p1.toNat))), some (.inl (zW (p2 - zW (zW (p2.tdiv 12) * 12)))), some (.inl 0)]) (st' := [.inl 0]) (σ' := σ) 5 rfl ?_
        exact zX_ret rfl rfl (h13 a1 a5 a6)
      · skip
        refine zX_run (n' := 50) (ls' := [some (.inr (.inr (10, 0))), some (.inl p1), some (.inl p2), some (.inl (σ.1 63 0 (p1.toNat))), some (.inl (zW (p2 - zW (zW (p2.tdiv 12) * 12)))), some (.inl 0)]) (st' := [.inl 6, .inl (zW (p2 - zW (zW (p2.tdiv 12) * 12)))]) (σ' := σ) 2 rfl ?_
        refine zX_c0 rfl (fun a7 => ?_) (fun a7 => ?_)
        · skip
          refine zX_run (n' := 61) (ls' := [some (.inr (.inr (10, 0))), some (.inl p1), some (.inl p2), some (.inl (σ.1 63 0 (p1.toNat))), some (.inl (zW (p2 - zW (zW (p2.tdiv 12) * 12)))), some (.inl 0)]) (st' := [.inl (zW ((σ.1 63 0 (p1.toNat)) + (zW ((σ.1 63 0 (p1.toNat)).tdiv 2))))]) (σ' := σ) 6 rfl ?_
          exact zX_ret rfl rfl (h14 a1 a5 a6 a7)
        · skip
          refine zX_run (n' := 53) (ls' := [some (.inr (.inr (10, 0))), some (.inl p1), some (.inl p2), some (.inl (σ.1 63 0 (p1.toNat))), some (.inl (zW (p2 - zW (zW (p2.tdiv 12) * 12)))), some (.inl 0)]) (st' := [.inl 7, .inl (zW (p2 - zW (zW (p2.tdiv 12) * 12)))]) (σ' := σ) 2 rfl ?_
          refine zX_c1 rfl (fun a8 => ?_) (fun a8 => ?_)
          · skip
            refine zX_run (n' := 61) (ls' := [some (.inr (.inr (10, 0))), some (.inl p1), some (.inl p2), some (.inl (σ.1 63 0 (p1.toNat))), some (.inl (zW (p2 - zW (zW (p2.tdiv 12) * 12)))), some (.inl 0)]) (st' := [.inl (σ.1 63 0 (p1.toNat))]) (σ' := σ) 1 rfl ?_
            exact zX_ret rfl rfl (h15 a1 a5 a6 a7 a8)
          · skip
            refine zX_run (n' := 61) (ls' := [some (.inr (.inr (10, 0))), some (.inl p1), some (.inl p2), some (.inl (σ.1 63 0 (p1.toNat))), some (.inl (zW (p2 - zW (zW (p2.tdiv 12) * 12)))), some (.inl 0)]) (st' := [.inl (zW ((σ.1 63 0 (p1.toNat)) + (zW ((σ.1 63 0 (p1.toNat)).tdiv 2))))]) (σ' := σ) 6 rfl ?_
            exact zX_ret rfl rfl (h16 a1 a5 a6 a7 a8)
    · skip
      refine zX_run (n' := 22) (ls' := [some (.inr (.inr (10, 0))), some (.inl p1), some (.inl p2), some (.inl (σ.1 63 0 (p1.toNat))), some (.inl (zW (p2 - zW (zW (p2.tdiv 12) * 12)))), some (.inl (σ.1 63 0 (p1.toNat)))]) (st' := [.inl p1, .inr (.inr (60, 0))]) (σ' := σ) 6 rfl ?_
      refine zX_ald1 (L := 17) rfl (by decide) rfl (o8 a1 a5) ?_
      refine zX_sw rfl (fun a9 => ?_) ⟨fun a9 => ?_, fun a9 => ?_, fun a9 => ?_, fun a9 => ?_, fun a9 => ?_, trivial⟩
      · skip
        refine zX_run (n' := 63) (ls' := [some (.inr (.inr (10, 0))), some (.inl p1), some (.inl p2), some (.inl (σ.1 63 0 (p1.toNat))), some (.inl (zW (p2 - zW (zW (p2.tdiv 12) * 12)))), some (.inl (σ.1 63 0 (p1.toNat)))]) (st' := [.inl (σ.1 63 0 (p1.toNat))]) (σ' := σ) 1 rfl ?_
        exact zX_ret rfl rfl (h17 a1 a5 a9)
      · skip
        refine zX_run (n' := 25) (ls' := [some (.inr (.inr (10, 0))), some (.inl p1), some (.inl p2), some (.inl (σ.1 63 0 (p1.toNat))), some (.inl (zW (p2 - zW (zW (p2.tdiv 12) * 12)))), some (.inl (σ.1 63 0 (p1.toNat)))]) (st' := [.inl (σ.1 63 0 (p1.toNat))]) (σ' := σ) 1 rfl ?_
        exact zX_ret rfl rfl (h18 a1 a5 a9)
      · skip
        refine zX_run (n' := 35) (ls' := [some (.inr (.inr (10, 0))), some (.inl p1), some (.inl p2), some (.inl (σ.1 63 0 (p1.toNat))), some (.inl (zW (p2 - zW (zW (p2.tdiv 12) * 12)))), some (.inl (σ.1 63 0 (p1.toNat)))]) (st' := [.inl p1, .inr (.inr (62, 0)), .inl (zW (7 * p2)), .inr (.inr (100, 0)), .inl (σ.1 63 0 (p1.toNat))]) (σ' := σ) 9 rfl ?_
        refine zX_ald1 (L := 17) rfl (by decide) rfl (o9 a1 a5 a9) ?_
        refine zX_run (n' := 37) (ls' := [some (.inr (.inr (10, 0))), some (.inl p1), some (.inl p2), some (.inl (σ.1 63 0 (p1.toNat))), some (.inl (zW (p2 - zW (zW (p2.tdiv 12) * 12)))), some (.inl (σ.1 63 0 (p1.toNat)))]) (st' := [.inl (zW ((zW (7 * p2)) + (σ.1 62 0 (p1.toNat)))), .inr (.inr (100, 0)), .inl (σ.1 63 0 (p1.toNat))]) (σ' := σ) 1 rfl ?_
        refine zX_ald1 (L := 672) rfl (by decide) rfl (o10 a1 a5 a9) ?_
        refine zX_run (n' := 41) (ls' := [some (.inr (.inr (10, 0))), some (.inl p1), some (.inl p2), some (.inl (σ.1 63 0 (p1.toNat))), some (.inl (zW (p2 - zW (zW (p2.tdiv 12) * 12)))), some (.inl (σ.1 63 0 (p1.toNat)))]) (st' := [.inl (zW ((zW ((σ.1 63 0 (p1.toNat)) * (σ.1 100 0 ((zW ((zW (7 * p2)) + (σ.1 62 0 (p1.toNat)))).toNat)))).tdiv 100))]) (σ' := σ) 3 rfl ?_
        exact zX_ret rfl rfl (h19 a1 a5 a9)
      · skip
        refine zX_run (n' := 63) (ls' := [some (.inr (.inr (10, 0))), some (.inl p1), some (.inl p2), some (.inl (σ.1 63 0 (p1.toNat))), some (.inl (zW (p2 - zW (zW (p2.tdiv 12) * 12)))), some (.inl (σ.1 63 0 (p1.toNat)))]) (st' := [.inl (σ.1 63 0 (p1.toNat))]) (σ' := σ) 1 rfl ?_
        exact zX_ret rfl rfl (h20 a1 a5 a9)
      · skip
        refine zX_run (n' := 47) (ls' := [some (.inr (.inr (10, 0))), some (.inl p1), some (.inl p2), some (.inl (σ.1 63 0 (p1.toNat))), some (.inl (zW (p2 - zW (zW (p2.tdiv 12) * 12)))), some (.inl (σ.1 63 0 (p1.toNat)))]) (st' := [.inl (zW ((σ.1 63 0 (p1.toNat)) + (zW ((σ.1 63 0 (p1.toNat)).tdiv 10))))]) (σ' := σ) 5 rfl ?_
        exact zX_ret rfl rfl (h21 a1 a5 a9)
      · skip
        refine zX_run (n' := 50) (ls' := [some (.inr (.inr (10, 0))), some (.inl p1), some (.inl p2), some (.inl (σ.1 63 0 (p1.toNat))), some (.inl (zW (p2 - zW (zW (p2.tdiv 12) * 12)))), some (.inl (σ.1 63 0 (p1.toNat)))]) (st' := [.inl 6, .inl (zW (p2 - zW (zW (p2.tdiv 12) * 12)))]) (σ' := σ) 2 rfl ?_
        refine zX_c0 rfl (fun a10 => ?_) (fun a10 => ?_)
        · skip
          refine zX_run (n' := 61) (ls' := [some (.inr (.inr (10, 0))), some (.inl p1), some (.inl p2), some (.inl (σ.1 63 0 (p1.toNat))), some (.inl (zW (p2 - zW (zW (p2.tdiv 12) * 12)))), some (.inl (σ.1 63 0 (p1.toNat)))]) (st' := [.inl (zW ((σ.1 63 0 (p1.toNat)) + (zW ((σ.1 63 0 (p1.toNat)).tdiv 2))))]) (σ' := σ) 6 rfl ?_
          exact zX_ret rfl rfl (h22 a1 a5 a9 a10)
        · skip
          refine zX_run (n' := 53) (ls' := [some (.inr (.inr (10, 0))), some (.inl p1), some (.inl p2), some (.inl (σ.1 63 0 (p1.toNat))), some (.inl (zW (p2 - zW (zW (p2.tdiv 12) * 12)))), some (.inl (σ.1 63 0 (p1.toNat)))]) (st' := [.inl 7, .inl (zW (p2 - zW (zW (p2.tdiv 12) * 12)))]) (σ' := σ) 2 rfl ?_
          refine zX_c1 rfl (fun a11 => ?_) (fun a11 => ?_)
          · skip
            refine zX_run (n' := 61) (ls' := [some (.inr (.inr (10, 0))), some (.inl p1), some (.inl p2), some (.inl (σ.1 63 0 (p1.toNat))), some (.inl (zW (p2 - zW (zW (p2.tdiv 12) * 12)))), some (.inl (σ.1 63 0 (p1.toNat)))]) (st' := [.inl (σ.1 63 0 (p1.toNat))]) (σ' := σ) 1 rfl ?_
            exact zX_ret rfl rfl (h23 a1 a5 a9 a10 a11)
          · skip
            refine zX_run (n' := 61) (ls' := [some (.inr (.inr (10, 0))), some (.inl p1), some (.inl p2), some (.inl (σ.1 63 0 (p1.toNat))), some (.inl (zW (p2 - zW (zW (p2.tdiv 12) * 12)))), some (.inl (σ.1 63 0 (p1.toNat)))]) (st' := [.inl (zW ((σ.1 63 0 (p1.toNat)) + (zW ((σ.1 63 0 (p1.toNat)).tdiv 2))))]) (σ' := σ) 6 rfl ?_
            exact zX_ret rfl rfl (h24 a1 a5 a9 a10 a11)
-- X10_call
theorem zm_139 {d : Nat} {σ : zS} {Q : Option zV → zS → Prop} {p1 : Int} {p2 : Int}
    (o1 : ¬ p1 < 0 → ¬ σ.1 10 0 4 ≤ p1 → ¬ p2 < 0 → ¬ 96 ≤ p2 → ¬ σ.1 10 0 5 = 16 → (0 : Int) ≤ σ.1 10 0 5 ∧ σ.1 10 0 5 < (16 : Int))
    (o2 : ¬ p1 < 0 → ¬ σ.1 10 0 4 ≤ p1 → ¬ p2 < 0 → ¬ 96 ≤ p2 → ¬ σ.1 10 0 5 = 16 → (0 : Int) ≤ σ.1 10 0 5 ∧ σ.1 10 0 5 < (16 : Int))
    (h1 : p1 < 0 → Q (some (.inl (-2))) σ)
    (h2 : ¬ p1 < 0 → σ.1 10 0 4 ≤ p1 → Q (some (.inl (-2))) σ)
    (h3 : ¬ p1 < 0 → ¬ σ.1 10 0 4 ≤ p1 → p2 < 0 → Q (some (.inl (-2))) σ)
    (h4 : ¬ p1 < 0 → ¬ σ.1 10 0 4 ≤ p1 → ¬ p2 < 0 → 96 ≤ p2 → Q (some (.inl (-2))) σ)
    (h5 : ¬ p1 < 0 → ¬ σ.1 10 0 4 ≤ p1 → ¬ p2 < 0 → ¬ 96 ≤ p2 → ¬ σ.1 10 0 5 = 16 → Q (some (.inl (σ.1 10 0 5))) (zU (zU (zU σ 67 0 ((σ.1 10 0 5).toNat) p1) 68 0 ((σ.1 10 0 5).toNat) p2) 10 0 5 (zW ((σ.1 10 0 5) + 1))))
    (h6 : ¬ p1 < 0 → ¬ σ.1 10 0 4 ≤ p1 → ¬ p2 < 0 → ¬ 96 ≤ p2 → σ.1 10 0 5 = 16 → Q (some (.inl (-4))) σ) :
    zM (d + 1) 139 [.inr (.inr (10, 0)), .inl p1, .inl p2] σ Q := by
  refine zX_run (n' := 2) (ls' := [some (.inr (.inr (10, 0))), some (.inl p1), some (.inl p2)]) (st' := [.inl p1, .inr (.inr (10, 0))]) (σ' := σ) 2 rfl ?_
  refine zX_call rfl rfl ?_
  refine zm_121 (fun a1 => ?_) (fun a2 a3 => ?_) (fun a4 a5 => ?_)
  · skip
    refine zX_run (n' := 8) (ls' := [some (.inr (.inr (10, 0))), some (.inl p1), some (.inl p2)]) (st' := [.inl (-2)]) (σ' := σ) 2 rfl ?_
    exact zX_ret rfl rfl (h1 a1)
  · skip
    refine zX_run (n' := 8) (ls' := [some (.inr (.inr (10, 0))), some (.inl p1), some (.inl p2)]) (st' := [.inl (-2)]) (σ' := σ) 2 rfl ?_
    exact zX_ret rfl rfl (h2 a2 a3)
  · skip
    refine zX_run (n' := 5) (ls' := [some (.inr (.inr (10, 0))), some (.inl p1), some (.inl p2)]) (st' := [.inl p2]) (σ' := σ) 2 rfl ?_
    refine zX_call rfl rfl ?_
    refine zm_120 (fun a6 => ?_) (fun a7 a8 => ?_) (fun a9 a10 => ?_)
    · skip
      refine zX_run (n' := 8) (ls' := [some (.inr (.inr (10, 0))), some (.inl p1), some (.inl p2)]) (st' := [.inl (-2)]) (σ' := σ) 2 rfl ?_
      exact zX_ret rfl rfl (h3 a4 a5 a6)
    · skip
      refine zX_run (n' := 8) (ls' := [some (.inr (.inr (10, 0))), some (.inl p1), some (.inl p2)]) (st' := [.inl (-2)]) (σ' := σ) 2 rfl ?_
      exact zX_ret rfl rfl (h4 a4 a5 a7 a8)
    · skip
      refine zX_run (n' := 12) (ls' := [some (.inr (.inr (10, 0))), some (.inl p1), some (.inl p2)]) (st' := [.inl 16, .inl (σ.1 10 0 5)]) (σ' := σ) 4 rfl ?_
      refine zX_c1 rfl (fun a11 => ?_) (fun a11 => ?_)
      · skip
        refine zX_run (n' := 20) (ls' := [some (.inr (.inr (10, 0))), some (.inl p1), some (.inl p2)]) (st' := [.inl p1, .inl (σ.1 10 0 5), .inr (.inr (67, 0))]) (σ' := σ) 5 rfl ?_
        refine zX_ast1 (L := 16) rfl (by decide) rfl (o1 a4 a5 a9 a10 a11) ?_
        refine zX_run (n' := 26) (ls' := [some (.inr (.inr (10, 0))), some (.inl p1), some (.inl p2)]) (st' := [.inl p2, .inl (σ.1 10 0 5), .inr (.inr (68, 0))]) (σ' := (zU σ 67 0 ((σ.1 10 0 5).toNat) p1)) 5 rfl ?_
        refine zX_ast1 (L := 16) rfl (by decide) rfl (o2 a4 a5 a9 a10 a11) ?_
        refine zX_run (n' := 34) (ls' := [some (.inr (.inr (10, 0))), some (.inl p1), some (.inl p2)]) (st' := [.inl (σ.1 10 0 5)]) (σ' := (zU (zU (zU σ 67 0 ((σ.1 10 0 5).toNat) p1) 68 0 ((σ.1 10 0 5).toNat) p2) 10 0 5 (zW ((σ.1 10 0 5) + 1)))) 7 rfl ?_
        exact zX_ret rfl rfl (h5 a4 a5 a9 a10 a11)
      · skip
        refine zX_run (n' := 14) (ls' := [some (.inr (.inr (10, 0))), some (.inl p1), some (.inl p2)]) (st' := [.inl (-4)]) (σ' := σ) 1 rfl ?_
        exact zX_ret rfl rfl (h6 a4 a5 a9 a10 a11)
-- X10_signOf
theorem zm_143 {d : Nat} {σ : zS} {Q : Option zV → zS → Prop} {p1 : Int}
    (h1 : p1 < 40 ∨ 61 < p1 → Q (some (.inl 24)) σ)
    (h2 : p1 = 40 → Q (some (.inl 19)) σ)
    (h3 : p1 = 41 → Q (some (.inl 20)) σ)
    (h4 : p1 = 42 → Q (some (.inl 17)) σ)
    (h5 : p1 = 43 → Q (some (.inl 15)) σ)
    (h6 : p1 = 44 → Q (some (.inl 24)) σ)
    (h7 : p1 = 45 → Q (some (.inl 16)) σ)
    (h8 : p1 = 46 → Q (some (.inl 24)) σ)
    (h9 : p1 = 47 → Q (some (.inl 24)) σ)
    (h10 : p1 = 48 → Q (some (.inl 24)) σ)
    (h11 : p1 = 49 → Q (some (.inl 24)) σ)
    (h12 : p1 = 50 → Q (some (.inl 24)) σ)
    (h13 : p1 = 51 → Q (some (.inl 24)) σ)
    (h14 : p1 = 52 → Q (some (.inl 24)) σ)
    (h15 : p1 = 53 → Q (some (.inl 24)) σ)
    (h16 : p1 = 54 → Q (some (.inl 24)) σ)
    (h17 : p1 = 55 → Q (some (.inl 24)) σ)
    (h18 : p1 = 56 → Q (some (.inl 24)) σ)
    (h19 : p1 = 57 → Q (some (.inl 24)) σ)
    (h20 : p1 = 58 → Q (some (.inl 24)) σ)
    (h21 : p1 = 59 → Q (some (.inl 21)) σ)
    (h22 : p1 = 60 → Q (some (.inl 13)) σ)
    (h23 : p1 = 61 → Q (some (.inl 14)) σ) :
    zM d 143 [.inl p1] σ Q := by
  refine zX_run (n' := 1) (ls' := [some (.inl p1)]) (st' := [.inl p1]) (σ' := σ) 1 rfl ?_
  refine zX_sw rfl (fun a1 => ?_) ⟨fun a1 => ?_, fun a1 => ?_, fun a1 => ?_, fun a1 => ?_, fun a1 => ?_, fun a1 => ?_, fun a1 => ?_, fun a1 => ?_, fun a1 => ?_, fun a1 => ?_, fun a1 => ?_, fun a1 => ?_, fun a1 => ?_, fun a1 => ?_, fun a1 => ?_, fun a1 => ?_, fun a1 => ?_, fun a1 => ?_, fun a1 => ?_, fun a1 => ?_, fun a1 => ?_, fun a1 => ?_, trivial⟩
  · skip
    refine zX_run (n' := 19) (ls' := [some (.inl p1)]) (st' := [.inl 24]) (σ' := σ) 1 rfl ?_
    exact zX_ret rfl rfl (h1 a1)
  · skip
    refine zX_run (n' := 3) (ls' := [some (.inl p1)]) (st' := [.inl 19]) (σ' := σ) 1 rfl ?_
    exact zX_ret rfl rfl (h2 a1)
  · skip
    refine zX_run (n' := 5) (ls' := [some (.inl p1)]) (st' := [.inl 20]) (σ' := σ) 1 rfl ?_
    exact zX_ret rfl rfl (h3 a1)
  · skip
    refine zX_run (n' := 13) (ls' := [some (.inl p1)]) (st' := [.inl 17]) (σ' := σ) 1 rfl ?_
    exact zX_ret rfl rfl (h4 a1)
  · skip
    refine zX_run (n' := 9) (ls' := [some (.inl p1)]) (st' := [.inl 15]) (σ' := σ) 1 rfl ?_
    exact zX_ret rfl rfl (h5 a1)
  · skip
    refine zX_run (n' := 19) (ls' := [some (.inl p1)]) (st' := [.inl 24]) (σ' := σ) 1 rfl ?_
    exact zX_ret rfl rfl (h6 a1)
  · skip
    refine zX_run (n' := 11) (ls' := [some (.inl p1)]) (st' := [.inl 16]) (σ' := σ) 1 rfl ?_
    exact zX_ret rfl rfl (h7 a1)
  · skip
    refine zX_run (n' := 19) (ls' := [some (.inl p1)]) (st' := [.inl 24]) (σ' := σ) 1 rfl ?_
    exact zX_ret rfl rfl (h8 a1)
  · skip
    refine zX_run (n' := 19) (ls' := [some (.inl p1)]) (st' := [.inl 24]) (σ' := σ) 1 rfl ?_
    exact zX_ret rfl rfl (h9 a1)
  · skip
    refine zX_run (n' := 19) (ls' := [some (.inl p1)]) (st' := [.inl 24]) (σ' := σ) 1 rfl ?_
    exact zX_ret rfl rfl (h10 a1)
  · skip
    refine zX_run (n' := 19) (ls' := [some (.inl p1)]) (st' := [.inl 24]) (σ' := σ) 1 rfl ?_
    exact zX_ret rfl rfl (h11 a1)
  · skip
    refine zX_run (n' := 19) (ls' := [some (.inl p1)]) (st' := [.inl 24]) (σ' := σ) 1 rfl ?_
    exact zX_ret rfl rfl (h12 a1)
  · skip
    refine zX_run (n' := 19) (ls' := [some (.inl p1)]) (st' := [.inl 24]) (σ' := σ) 1 rfl ?_
    exact zX_ret rfl rfl (h13 a1)
  · skip
    refine zX_run (n' := 19) (ls' := [some (.inl p1)]) (st' := [.inl 24]) (σ' := σ) 1 rfl ?_
    exact zX_ret rfl rfl (h14 a1)
  · skip
    refine zX_run (n' := 19) (ls' := [some (.inl p1)]) (st' := [.inl 24]) (σ' := σ) 1 rfl ?_
    exact zX_ret rfl rfl (h15 a1)
  · skip
    refine zX_run (n' := 19) (ls' := [some (.inl p1)]) (st' := [.inl 24]) (σ' := σ) 1 rfl ?_
    exact zX_ret rfl rfl (h16 a1)
  · skip
    refine zX_run (n' := 19) (ls' := [some (.inl p1)]) (st' := [.inl 24]) (σ' := σ) 1 rfl ?_
    exact zX_ret rfl rfl (h17 a1)
  · skip
    refine zX_run (n' := 19) (ls' := [some (.inl p1)]) (st' := [.inl 24]) (σ' := σ) 1 rfl ?_
    exact zX_ret rfl rfl (h18 a1)
  · skip
    refine zX_run (n' := 19) (ls' := [some (.inl p1)]) (st' := [.inl 24]) (σ' := σ) 1 rfl ?_
    exact zX_ret rfl rfl (h19 a1)
  · skip
    refine zX_run (n' := 19) (ls' := [some (.inl p1)]) (st' := [.inl 24]) (σ' := σ) 1 rfl ?_
    exact zX_ret rfl rfl (h20 a1)
  · skip
    refine zX_run (n' := 7) (ls' := [some (.inl p1)]) (st' := [.inl 21]) (σ' := σ) 1 rfl ?_
    exact zX_ret rfl rfl (h21 a1)
  · skip
    refine zX_run (n' := 15) (ls' := [some (.inl p1)]) (st' := [.inl 13]) (σ' := σ) 1 rfl ?_
    exact zX_ret rfl rfl (h22 a1)
  · skip
    refine zX_run (n' := 17) (ls' := [some (.inl p1)]) (st' := [.inl 14]) (σ' := σ) 1 rfl ?_
    exact zX_ret rfl rfl (h23 a1)
-- X10_strength
theorem zm_145 {d : Nat} {σ : zS} {Q : Option zV → zS → Prop} {p1 : Int}
    (h1 : p1 < 10 ∨ 18 < p1 → Q (some (.inl 0)) σ)
    (h2 : p1 = 10 → Q (some (.inl 1)) σ)
    (h3 : p1 = 11 → Q (some (.inl 2)) σ)
    (h4 : p1 = 12 → Q (some (.inl 3)) σ)
    (h5 : p1 = 13 → Q (some (.inl 4)) σ)
    (h6 : p1 = 14 → Q (some (.inl 4)) σ)
    (h7 : p1 = 15 → Q (some (.inl 5)) σ)
    (h8 : p1 = 16 → Q (some (.inl 5)) σ)
    (h9 : p1 = 17 → Q (some (.inl 6)) σ)
    (h10 : p1 = 18 → Q (some (.inl 7)) σ) :
    zM d 145 [.inl p1] σ Q := by
  refine zX_run (n' := 1) (ls' := [some (.inl p1)]) (st' := [.inl p1]) (σ' := σ) 1 rfl ?_
  refine zX_sw rfl (fun a1 => ?_) ⟨fun a1 => ?_, fun a1 => ?_, fun a1 => ?_, fun a1 => ?_, fun a1 => ?_, fun a1 => ?_, fun a1 => ?_, fun a1 => ?_, fun a1 => ?_, trivial⟩
  · skip
    refine zX_run (n' := 21) (ls' := [some (.inl p1)]) (st' := [.inl 0]) (σ' := σ) 1 rfl ?_
    exact zX_ret rfl rfl (h1 a1)
  · skip
    refine zX_run (n' := 3) (ls' := [some (.inl p1)]) (st' := [.inl 1]) (σ' := σ) 1 rfl ?_
    exact zX_ret rfl rfl (h2 a1)
  · skip
    refine zX_run (n' := 5) (ls' := [some (.inl p1)]) (st' := [.inl 2]) (σ' := σ) 1 rfl ?_
    exact zX_ret rfl rfl (h3 a1)
  · skip
    refine zX_run (n' := 7) (ls' := [some (.inl p1)]) (st' := [.inl 3]) (σ' := σ) 1 rfl ?_
    exact zX_ret rfl rfl (h4 a1)
  · skip
    refine zX_run (n' := 9) (ls' := [some (.inl p1)]) (st' := [.inl 4]) (σ' := σ) 1 rfl ?_
    exact zX_ret rfl rfl (h5 a1)
  · skip
    refine zX_run (n' := 11) (ls' := [some (.inl p1)]) (st' := [.inl 4]) (σ' := σ) 1 rfl ?_
    exact zX_ret rfl rfl (h6 a1)
  · skip
    refine zX_run (n' := 13) (ls' := [some (.inl p1)]) (st' := [.inl 5]) (σ' := σ) 1 rfl ?_
    exact zX_ret rfl rfl (h7 a1)
  · skip
    refine zX_run (n' := 15) (ls' := [some (.inl p1)]) (st' := [.inl 5]) (σ' := σ) 1 rfl ?_
    exact zX_ret rfl rfl (h8 a1)
  · skip
    refine zX_run (n' := 17) (ls' := [some (.inl p1)]) (st' := [.inl 6]) (σ' := σ) 1 rfl ?_
    exact zX_ret rfl rfl (h9 a1)
  · skip
    refine zX_run (n' := 19) (ls' := [some (.inl p1)]) (st' := [.inl 7]) (σ' := σ) 1 rfl ?_
    exact zX_ret rfl rfl (h10 a1)
-- X10_opens
theorem zm_147 {d : Nat} {σ : zS} {Q : Option zV → zS → Prop} {p1 : Int}
    (o1 : ¬ σ.1 10 0 60 = 5 → (0 : Int) ≤ σ.1 10 0 58 ∧ σ.1 10 0 58 < (300 : Int))
    (h1 : ¬ σ.1 10 0 60 = 5 → Q (some (.inl 1)) (zU (zU (zU σ 10 0 60 (zW ((σ.1 10 0 60) + 1))) 10 0 58 (zW ((σ.1 10 0 58) + 1))) 95 0 ((σ.1 10 0 58).toNat) p1))
    (h2 : σ.1 10 0 60 = 5 → Q (some (.inl 0)) σ) :
    zM d 147 [.inr (.inr (10, 0)), .inl p1] σ Q := by
  refine zX_run (n' := 3) (ls' := [some (.inr (.inr (10, 0))), some (.inl p1)]) (st' := [.inl 5, .inl (σ.1 10 0 60)]) (σ' := σ) 3 rfl ?_
  refine zX_c1 rfl (fun a1 => ?_) (fun a1 => ?_)
  · skip
    refine zX_run (n' := 22) (ls' := [some (.inr (.inr (10, 0))), some (.inl p1)]) (st' := [.inl p1, .inl (σ.1 10 0 58), .inr (.inr (95, 0))]) (σ' := (zU (zU σ 10 0 60 (zW ((σ.1 10 0 60) + 1))) 10 0 58 (zW ((σ.1 10 0 58) + 1)))) 16 rfl ?_
    refine zX_ast1 (L := 300) rfl (by decide) rfl (o1 a1) ?_
    refine zX_run (n' := 24) (ls' := [some (.inr (.inr (10, 0))), some (.inl p1)]) (st' := [.inl 1]) (σ' := (zU (zU (zU σ 10 0 60 (zW ((σ.1 10 0 60) + 1))) 10 0 58 (zW ((σ.1 10 0 58) + 1))) 95 0 ((σ.1 10 0 58).toNat) p1)) 1 rfl ?_
    exact zX_ret rfl rfl (h1 a1)
  · skip
    refine zX_run (n' := 5) (ls' := [some (.inr (.inr (10, 0))), some (.inl p1)]) (st' := [.inl 0]) (σ' := σ) 1 rfl ?_
    exact zX_ret rfl rfl (h2 a1)
-- X10_rule
theorem zm_152 {d : Nat} {σ : zS} {Q : Option zV → zS → Prop} {p1 : Int} {p2 : Int}
    (o1 : ¬ p1 < 0 → ¬ 3 < p1 → ¬ p2 < 0 → p2 < σ.1 10 0 6 → (0 : Int) ≤ p1 ∧ p1 < (4 : Int))
    (o2 : ¬ p1 < 0 → ¬ 3 < p1 → ¬ p2 < 0 → p2 < σ.1 10 0 6 → (0 : Int) ≤ p1 ∧ p1 < (4 : Int))
    (h1 : p1 < 0 → Q (some (.inl (-2))) σ)
    (h2 : ¬ p1 < 0 → 3 < p1 → Q (some (.inl (-2))) σ)
    (h3 : ¬ p1 < 0 → ¬ 3 < p1 → p2 < 0 → Q (some (.inl (-2))) σ)
    (h4 : ¬ p1 < 0 → ¬ 3 < p1 → ¬ p2 < 0 → p2 < σ.1 10 0 6 → Q (some (.inl (σ.1 70 0 (p1.toNat)))) (zU σ 70 0 (p1.toNat) p2))
    (h5 : ¬ p1 < 0 → ¬ 3 < p1 → ¬ p2 < 0 → ¬ p2 < σ.1 10 0 6 → Q (some (.inl (-2))) σ) :
    zM d 152 [.inr (.inr (10, 0)), .inl p1, .inl p2] σ Q := by
  refine zX_run (n' := 1) (ls' := [some (.inr (.inr (10, 0))), some (.inl p1), some (.inl p2), none]) (st' := [.inl p1]) (σ' := σ) 1 rfl ?_
  refine zX_i2 rfl (fun a1 => ?_) (fun a1 => ?_)
  · skip
    refine zX_run (n' := 12) (ls' := [some (.inr (.inr (10, 0))), some (.inl p1), some (.inl p2), none]) (st' := [.inl (-2)]) (σ' := σ) 1 rfl ?_
    exact zX_ret rfl rfl (h1 a1)
  · skip
    refine zX_run (n' := 4) (ls' := [some (.inr (.inr (10, 0))), some (.inl p1), some (.inl p2), none]) (st' := [.inl 3, .inl p1]) (σ' := σ) 2 rfl ?_
    refine zX_c4 rfl (fun a2 => ?_) (fun a2 => ?_)
    · skip
      refine zX_run (n' := 12) (ls' := [some (.inr (.inr (10, 0))), some (.inl p1), some (.inl p2), none]) (st' := [.inl (-2)]) (σ' := σ) 1 rfl ?_
      exact zX_ret rfl rfl (h2 a1 a2)
    · skip
      refine zX_run (n' := 6) (ls' := [some (.inr (.inr (10, 0))), some (.inl p1), some (.inl p2), none]) (st' := [.inl p2]) (σ' := σ) 1 rfl ?_
      refine zX_i2 rfl (fun a3 => ?_) (fun a3 => ?_)
      · skip
        refine zX_run (n' := 12) (ls' := [some (.inr (.inr (10, 0))), some (.inl p1), some (.inl p2), none]) (st' := [.inl (-2)]) (σ' := σ) 1 rfl ?_
        exact zX_ret rfl rfl (h3 a1 a2 a3)
      · skip
        refine zX_run (n' := 10) (ls' := [some (.inr (.inr (10, 0))), some (.inl p1), some (.inl p2), none]) (st' := [.inl (σ.1 10 0 6), .inl p2]) (σ' := σ) 3 rfl ?_
        refine zX_c2 rfl (fun a4 => ?_) (fun a4 => ?_)
        · skip
          refine zX_run (n' := 16) (ls' := [some (.inr (.inr (10, 0))), some (.inl p1), some (.inl p2), none]) (st' := [.inl p1, .inr (.inr (70, 0))]) (σ' := σ) 3 rfl ?_
          refine zX_ald1 (L := 4) rfl (by decide) rfl (o1 a1 a2 a3 a4) ?_
          refine zX_run (n' := 22) (ls' := [some (.inr (.inr (10, 0))), some (.inl p1), some (.inl p2), some (.inl (σ.1 70 0 (p1.toNat)))]) (st' := [.inl p2, .inl p1, .inr (.inr (70, 0))]) (σ' := σ) 5 rfl ?_
          refine zX_ast1 (L := 4) rfl (by decide) rfl (o2 a1 a2 a3 a4) ?_
          refine zX_run (n' := 24) (ls' := [some (.inr (.inr (10, 0))), some (.inl p1), some (.inl p2), some (.inl (σ.1 70 0 (p1.toNat)))]) (st' := [.inl (σ.1 70 0 (p1.toNat))]) (σ' := (zU σ 70 0 (p1.toNat) p2)) 1 rfl ?_
          exact zX_ret rfl rfl (h4 a1 a2 a3 a4)
        · skip
          refine zX_run (n' := 12) (ls' := [some (.inr (.inr (10, 0))), some (.inl p1), some (.inl p2), none]) (st' := [.inl (-2)]) (σ' := σ) 1 rfl ?_
          exact zX_ret rfl rfl (h5 a1 a2 a3 a4)
-- X10_sharpOf
theorem zm_167 {d : Nat} {σ : zS} {Q : Option zV → zS → Prop} {p1 : Int}
    (o1 : (0 : Int) ≤ zW ((zW (7 * p1)) + 6) ∧ zW ((zW (7 * p1)) + 6) < (672 : Int))
    (o2 : ¬ σ.1 82 0 ((zW ((zW (7 * p1)) + 6)).toNat) = 0 → (0 : Int) ≤ zW ((zW (7 * p1)) + 6) ∧ zW ((zW (7 * p1)) + 6) < (672 : Int))
    (o3 : ¬ σ.1 82 0 ((zW ((zW (7 * p1)) + 6)).toNat) = 0 → (0 : Int) ≤ zW ((zW (7 * p1)) + 6) ∧ zW ((zW (7 * p1)) + 6) < (672 : Int))
    (o4 : ¬ σ.1 82 0 ((zW ((zW (7 * p1)) + 6)).toNat) = 0 → σ.1 82 0 ((zW ((zW (7 * p1)) + 6)).toNat) ≠ 0)
    (h1 : ¬ σ.1 82 0 ((zW ((zW (7 * p1)) + 6)).toNat) = 0 → 1000000 < zWl ((zWl ((σ.2 84 0 ((zW ((zW (7 * p1)) + 6)).toNat)) * 1000)).tdiv (σ.1 82 0 ((zW ((zW (7 * p1)) + 6)).toNat))) → Q (some (.inl 1000000)) σ)
    (h2 : ¬ σ.1 82 0 ((zW ((zW (7 * p1)) + 6)).toNat) = 0 → zWl ((zWl ((σ.2 84 0 ((zW ((zW (7 * p1)) + 6)).toNat)) * 1000)).tdiv (σ.1 82 0 ((zW ((zW (7 * p1)) + 6)).toNat))) = 1000000 → Q (some (.inl (zW (zWl ((zWl ((σ.2 84 0 ((zW ((zW (7 * p1)) + 6)).toNat)) * 1000)).tdiv (σ.1 82 0 ((zW ((zW (7 * p1)) + 6)).toNat))))))) σ)
    (h3 : ¬ σ.1 82 0 ((zW ((zW (7 * p1)) + 6)).toNat) = 0 → zWl ((zWl ((σ.2 84 0 ((zW ((zW (7 * p1)) + 6)).toNat)) * 1000)).tdiv (σ.1 82 0 ((zW ((zW (7 * p1)) + 6)).toNat))) < 1000000 → Q (some (.inl (zW (zWl ((zWl ((σ.2 84 0 ((zW ((zW (7 * p1)) + 6)).toNat)) * 1000)).tdiv (σ.1 82 0 ((zW ((zW (7 * p1)) + 6)).toNat))))))) σ)
    (h4 : σ.1 82 0 ((zW ((zW (7 * p1)) + 6)).toNat) = 0 → Q (some (.inl 0)) σ) :
    zM d 167 [.inr (.inr (10, 0)), .inl p1] σ Q := by
  refine zX_run (n' := 9) (ls' := [some (.inr (.inr (10, 0))), some (.inl p1), some (.inl (zW ((zW (7 * p1)) + 6))), none, none]) (st' := [.inl (zW ((zW (7 * p1)) + 6)), .inr (.inr (82, 0))]) (σ' := σ) 9 rfl ?_
  refine zX_ald1 (L := 672) rfl (by decide) rfl o1 ?_
  refine zX_i1 rfl (fun a1 => ?_) (fun a1 => ?_)
  · skip
    refine zX_run (n' := 16) (ls' := [some (.inr (.inr (10, 0))), some (.inl p1), some (.inl (zW ((zW (7 * p1)) + 6))), none, none]) (st' := [.inl (zW ((zW (7 * p1)) + 6)), .inr (.inr (84, 0))]) (σ' := σ) 3 rfl ?_
    refine zX_ald2 (L := 672) rfl (by decide) rfl (o2 a1) ?_
    refine zX_run (n' := 22) (ls' := [some (.inr (.inr (10, 0))), some (.inl p1), some (.inl (zW ((zW (7 * p1)) + 6))), none, none]) (st' := [.inl (zW ((zW (7 * p1)) + 6)), .inr (.inr (82, 0)), .inr (.inl (zWl ((σ.2 84 0 ((zW ((zW (7 * p1)) + 6)).toNat)) * 1000)))]) (σ' := σ) 5 rfl ?_
    refine zX_ald1 (L := 672) rfl (by decide) rfl (o3 a1) ?_
    refine zX_run (n' := 24) (ls' := [some (.inr (.inr (10, 0))), some (.inl p1), some (.inl (zW ((zW (7 * p1)) + 6))), none, none]) (st' := [.inr (.inl (σ.1 82 0 ((zW ((zW (7 * p1)) + 6)).toNat))), .inr (.inl (zWl ((σ.2 84 0 ((zW ((zW (7 * p1)) + 6)).toNat)) * 1000)))]) (σ' := σ) 1 rfl ?_
    refine zX_ldiv rfl (o4 a1) ?_
    refine zX_run (n' := 28) (ls' := [some (.inr (.inr (10, 0))), some (.inl p1), some (.inl (zW ((zW (7 * p1)) + 6))), some (.inr (.inl (zWl ((zWl ((σ.2 84 0 ((zW ((zW (7 * p1)) + 6)).toNat)) * 1000)).tdiv (σ.1 82 0 ((zW ((zW (7 * p1)) + 6)).toNat)))))), none]) (st' := [.inr (.inl 1000000), .inr (.inl (zWl ((zWl ((σ.2 84 0 ((zW ((zW (7 * p1)) + 6)).toNat)) * 1000)).tdiv (σ.1 82 0 ((zW ((zW (7 * p1)) + 6)).toNat)))))]) (σ' := σ) 3 rfl ?_
    refine zX_lc rfl (fun a2 => ?_) (fun a2 => ?_) (fun a2 => ?_)
    · skip
      refine zX_run (n' := 34) (ls' := [some (.inr (.inr (10, 0))), some (.inl p1), some (.inl (zW ((zW (7 * p1)) + 6))), some (.inr (.inl (zWl ((zWl ((σ.2 84 0 ((zW ((zW (7 * p1)) + 6)).toNat)) * 1000)).tdiv (σ.1 82 0 ((zW ((zW (7 * p1)) + 6)).toNat)))))), none]) (st' := [.inl 1000000]) (σ' := σ) 3 rfl ?_
      exact zX_ret rfl rfl (h1 a1 a2)
    · skip
      refine zX_run (n' := 34) (ls' := [some (.inr (.inr (10, 0))), some (.inl p1), some (.inl (zW ((zW (7 * p1)) + 6))), some (.inr (.inl (zWl ((zWl ((σ.2 84 0 ((zW ((zW (7 * p1)) + 6)).toNat)) * 1000)).tdiv (σ.1 82 0 ((zW ((zW (7 * p1)) + 6)).toNat)))))), none]) (st' := [.inl (zW (zWl ((zWl ((σ.2 84 0 ((zW ((zW (7 * p1)) + 6)).toNat)) * 1000)).tdiv (σ.1 82 0 ((zW ((zW (7 * p1)) + 6)).toNat)))))]) (σ' := σ) 3 rfl ?_
      exact zX_ret rfl rfl (h2 a1 a2)
    · skip
      refine zX_run (n' := 34) (ls' := [some (.inr (.inr (10, 0))), some (.inl p1), some (.inl (zW ((zW (7 * p1)) + 6))), some (.inr (.inl (zWl ((zWl ((σ.2 84 0 ((zW ((zW (7 * p1)) + 6)).toNat)) * 1000)).tdiv (σ.1 82 0 ((zW ((zW (7 * p1)) + 6)).toNat)))))), none]) (st' := [.inl (zW (zWl ((zWl ((σ.2 84 0 ((zW ((zW (7 * p1)) + 6)).toNat)) * 1000)).tdiv (σ.1 82 0 ((zW ((zW (7 * p1)) + 6)).toNat)))))]) (σ' := σ) 3 rfl ?_
      exact zX_ret rfl rfl (h3 a1 a2)
  · skip
    refine zX_run (n' := 12) (ls' := [some (.inr (.inr (10, 0))), some (.inl p1), some (.inl (zW ((zW (7 * p1)) + 6))), none, none]) (st' := [.inl 0]) (σ' := σ) 1 rfl ?_
    exact zX_ret rfl rfl (h4 a1)
-- X10_isPromise
theorem zm_170 {d : Nat} {σ : zS} {Q : Option zV → zS → Prop} {p1 : Int} {p2 : Int} {p3 : Int}
    (h1 : p1 < 0 → Q (some (.inl 0)) σ)
    (h2 : ¬ p1 < 0 → 7 ≤ p1 → Q (some (.inl 0)) σ)
    (h3 : ¬ p1 < 0 → ¬ 7 ≤ p1 → p2 < 0 → Q (some (.inl 0)) σ)
    (h4 : ¬ p1 < 0 → ¬ 7 ≤ p1 → ¬ p2 < 0 → 9999999 < p2 → Q (some (.inl 0)) σ)
    (h5 : ¬ p1 < 0 → ¬ 7 ≤ p1 → ¬ p2 < 0 → ¬ 9999999 < p2 → p3 < 1 → Q (some (.inl 0)) σ)
    (h6 : ¬ p1 < 0 → ¬ 7 ≤ p1 → ¬ p2 < 0 → ¬ 9999999 < p2 → ¬ p3 < 1 → 60 < p3 → Q (some (.inl 0)) σ)
    (h7 : ¬ p1 < 0 → ¬ 7 ≤ p1 → ¬ p2 < 0 → ¬ 9999999 < p2 → ¬ p3 < 1 → ¬ 60 < p3 → Q (some (.inl 1)) σ) :
    zM (d + 1) 170 [.inl p1, .inl p2, .inl p3] σ Q := by
  refine zX_run (n' := 1) (ls' := [some (.inl p1), some (.inl p2), some (.inl p3)]) (st' := [.inl p1]) (σ' := σ) 1 rfl ?_
  refine zX_call rfl rfl ?_
  refine zm_119 (fun a1 => ?_) (fun a2 a3 => ?_) (fun a4 a5 => ?_)
  · skip
    refine zX_run (n' := 17) (ls' := [some (.inl p1), some (.inl p2), some (.inl p3)]) (st' := [.inl 0]) (σ' := σ) 2 rfl ?_
    exact zX_ret rfl rfl (h1 a1)
  · skip
    refine zX_run (n' := 17) (ls' := [some (.inl p1), some (.inl p2), some (.inl p3)]) (st' := [.inl 0]) (σ' := σ) 2 rfl ?_
    exact zX_ret rfl rfl (h2 a2 a3)
  · skip
    refine zX_run (n' := 4) (ls' := [some (.inl p1), some (.inl p2), some (.inl p3)]) (st' := [.inl p2]) (σ' := σ) 2 rfl ?_
    refine zX_i2 rfl (fun a6 => ?_) (fun a6 => ?_)
    · skip
      refine zX_run (n' := 17) (ls' := [some (.inl p1), some (.inl p2), some (.inl p3)]) (st' := [.inl 0]) (σ' := σ) 1 rfl ?_
      exact zX_ret rfl rfl (h3 a4 a5 a6)
    · skip
      refine zX_run (n' := 7) (ls' := [some (.inl p1), some (.inl p2), some (.inl p3)]) (st' := [.inl 9999999, .inl p2]) (σ' := σ) 2 rfl ?_
      refine zX_c4 rfl (fun a7 => ?_) (fun a7 => ?_)
      · skip
        refine zX_run (n' := 17) (ls' := [some (.inl p1), some (.inl p2), some (.inl p3)]) (st' := [.inl 0]) (σ' := σ) 1 rfl ?_
        exact zX_ret rfl rfl (h4 a4 a5 a6 a7)
      · skip
        refine zX_run (n' := 10) (ls' := [some (.inl p1), some (.inl p2), some (.inl p3)]) (st' := [.inl 1, .inl p3]) (σ' := σ) 2 rfl ?_
        refine zX_c2 rfl (fun a8 => ?_) (fun a8 => ?_)
        · skip
          refine zX_run (n' := 17) (ls' := [some (.inl p1), some (.inl p2), some (.inl p3)]) (st' := [.inl 0]) (σ' := σ) 1 rfl ?_
          exact zX_ret rfl rfl (h5 a4 a5 a6 a7 a8)
        · skip
          refine zX_run (n' := 13) (ls' := [some (.inl p1), some (.inl p2), some (.inl p3)]) (st' := [.inl 60, .inl p3]) (σ' := σ) 2 rfl ?_
          refine zX_c4 rfl (fun a9 => ?_) (fun a9 => ?_)
          · skip
            refine zX_run (n' := 17) (ls' := [some (.inl p1), some (.inl p2), some (.inl p3)]) (st' := [.inl 0]) (σ' := σ) 1 rfl ?_
            exact zX_ret rfl rfl (h6 a4 a5 a6 a7 a8 a9)
          · skip
            refine zX_run (n' := 17) (ls' := [some (.inl p1), some (.inl p2), some (.inl p3)]) (st' := [.inl 1]) (σ' := σ) 2 rfl ?_
            exact zX_ret rfl rfl (h7 a4 a5 a6 a7 a8 a9)
-- X10_cell
theorem zm_185 {d : Nat} {σ : zS} {Q : Option zV → zS → Prop} {p1 : Int} {p2 : Int} {p3 : Int}
    (o1 : ¬ p1 < 0 → p1 ≤ 3 → (0 : Int) ≤ p1 ∧ p1 < (4 : Int))
    (o2 : ¬ p1 < 0 → p1 ≤ 3 → ¬ σ.1 74 0 (p1.toNat) = (-1) → ¬ p2 < 0 → (0 : Int) ≤ p1 ∧ p1 < (4 : Int))
    (o3 : ¬ p1 < 0 → p1 ≤ 3 → ¬ σ.1 74 0 (p1.toNat) = (-1) → ¬ p2 < 0 → p2 < σ.1 75 0 (p1.toNat) → (0 : Int) ≤ p1 ∧ p1 < (4 : Int))
    (o4 : ¬ p1 < 0 → p1 ≤ 3 → ¬ σ.1 74 0 (p1.toNat) = (-1) → ¬ p2 < 0 → p2 < σ.1 75 0 (p1.toNat) → ¬ σ.1 74 0 (p1.toNat) = 0 → (0 : Int) ≤ p1 ∧ p1 < (4 : Int))
    (o5 : ¬ p1 < 0 → p1 ≤ 3 → ¬ σ.1 74 0 (p1.toNat) = (-1) → ¬ p2 < 0 → p2 < σ.1 75 0 (p1.toNat) → ¬ σ.1 74 0 (p1.toNat) = 0 → ¬ σ.1 74 0 (p1.toNat) = 1 → (0 : Int) ≤ zW ((zW (40 * p1)) + p2) ∧ zW ((zW (40 * p1)) + p2) < (160 : Int))
    (o6 : ¬ p1 < 0 → p1 ≤ 3 → ¬ σ.1 74 0 (p1.toNat) = (-1) → ¬ p2 < 0 → p2 < σ.1 75 0 (p1.toNat) → ¬ σ.1 74 0 (p1.toNat) = 0 → σ.1 74 0 (p1.toNat) = 1 → (0 : Int) ≤ zW ((zW (40 * p1)) + p2) ∧ zW ((zW (40 * p1)) + p2) < (160 : Int))
    (o7 : ¬ p1 < 0 → p1 ≤ 3 → ¬ σ.1 74 0 (p1.toNat) = (-1) → ¬ p2 < 0 → p2 < σ.1 75 0 (p1.toNat) → σ.1 74 0 (p1.toNat) = 0 → (0 : Int) ≤ zW ((zW (40 * p1)) + p2) ∧ zW ((zW (40 * p1)) + p2) < (160 : Int))
    (h1 : p1 < 0 → Q (some (.inl (-2))) σ)
    (h2 : ¬ p1 < 0 → p1 ≤ 3 → ¬ σ.1 74 0 (p1.toNat) = (-1) → p2 < 0 → Q (some (.inl (-12))) σ)
    (h3 : ¬ p1 < 0 → p1 ≤ 3 → ¬ σ.1 74 0 (p1.toNat) = (-1) → ¬ p2 < 0 → p2 < σ.1 75 0 (p1.toNat) → ¬ σ.1 74 0 (p1.toNat) = 0 → ¬ σ.1 74 0 (p1.toNat) = 1 → Q (some (.inl 1)) (zU σ 76 0 ((zW ((zW (40 * p1)) + p2)).toNat) p3))
    (h4 : ¬ p1 < 0 → p1 ≤ 3 → ¬ σ.1 74 0 (p1.toNat) = (-1) → ¬ p2 < 0 → p2 < σ.1 75 0 (p1.toNat) → ¬ σ.1 74 0 (p1.toNat) = 0 → σ.1 74 0 (p1.toNat) = 1 → Q (some (.inl 1)) (zU σ 76 0 ((zW ((zW (40 * p1)) + p2)).toNat) ((p3 + 32768) % 65536 - 32768)))
    (h5 : ¬ p1 < 0 → p1 ≤ 3 → ¬ σ.1 74 0 (p1.toNat) = (-1) → ¬ p2 < 0 → p2 < σ.1 75 0 (p1.toNat) → σ.1 74 0 (p1.toNat) = 0 → Q (some (.inl 1)) (zU σ 76 0 ((zW ((zW (40 * p1)) + p2)).toNat) ((p3 + 128) % 256 - 128)))
    (h6 : ¬ p1 < 0 → p1 ≤ 3 → ¬ σ.1 74 0 (p1.toNat) = (-1) → ¬ p2 < 0 → ¬ p2 < σ.1 75 0 (p1.toNat) → Q (some (.inl (-12))) σ)
    (h7 : ¬ p1 < 0 → p1 ≤ 3 → σ.1 74 0 (p1.toNat) = (-1) → Q (some (.inl (-11))) σ)
    (h8 : ¬ p1 < 0 → ¬ p1 ≤ 3 → Q (some (.inl (-2))) σ) :
    zM d 185 [.inr (.inr (10, 0)), .inl p1, .inl p2, .inl p3] σ Q := by
  refine zX_run (n' := 1) (ls' := [some (.inr (.inr (10, 0))), some (.inl p1), some (.inl p2), some (.inl p3)]) (st' := [.inl p1]) (σ' := σ) 1 rfl ?_
  refine zX_i2 rfl (fun a1 => ?_) (fun a1 => ?_)
  · skip
    refine zX_run (n' := 6) (ls' := [some (.inr (.inr (10, 0))), some (.inl p1), some (.inl p2), some (.inl p3)]) (st' := [.inl (-2)]) (σ' := σ) 1 rfl ?_
    exact zX_ret rfl rfl (h1 a1)
  · skip
    refine zX_run (n' := 4) (ls' := [some (.inr (.inr (10, 0))), some (.inl p1), some (.inl p2), some (.inl p3)]) (st' := [.inl 3, .inl p1]) (σ' := σ) 2 rfl ?_
    refine zX_c5 rfl (fun a2 => ?_) (fun a2 => ?_)
    · skip
      refine zX_run (n' := 10) (ls' := [some (.inr (.inr (10, 0))), some (.inl p1), some (.inl p2), some (.inl p3)]) (st' := [.inl p1, .inr (.inr (74, 0))]) (σ' := σ) 3 rfl ?_
      refine zX_ald1 (L := 4) rfl (by decide) rfl (o1 a1 a2) ?_
      refine zX_run (n' := 12) (ls' := [some (.inr (.inr (10, 0))), some (.inl p1), some (.inl p2), some (.inl p3)]) (st' := [.inl (-1), .inl (σ.1 74 0 (p1.toNat))]) (σ' := σ) 1 rfl ?_
      refine zX_c1 rfl (fun a3 => ?_) (fun a3 => ?_)
      · skip
        refine zX_run (n' := 16) (ls' := [some (.inr (.inr (10, 0))), some (.inl p1), some (.inl p2), some (.inl p3)]) (st' := [.inl p2]) (σ' := σ) 1 rfl ?_
        refine zX_i2 rfl (fun a4 => ?_) (fun a4 => ?_)
        · skip
          refine zX_run (n' := 24) (ls' := [some (.inr (.inr (10, 0))), some (.inl p1), some (.inl p2), some (.inl p3)]) (st' := [.inl (-12)]) (σ' := σ) 1 rfl ?_
          exact zX_ret rfl rfl (h2 a1 a2 a3 a4)
        · skip
          refine zX_run (n' := 21) (ls' := [some (.inr (.inr (10, 0))), some (.inl p1), some (.inl p2), some (.inl p3)]) (st' := [.inl p1, .inr (.inr (75, 0)), .inl p2]) (σ' := σ) 4 rfl ?_
          refine zX_ald1 (L := 4) rfl (by decide) rfl (o2 a1 a2 a3 a4) ?_
          refine zX_c2 rfl (fun a5 => ?_) (fun a5 => ?_)
          · skip
            refine zX_run (n' := 35) (ls' := [some (.inr (.inr (10, 0))), some (.inl p1), some (.inl p2), some (.inl p3)]) (st' := [.inl p1, .inr (.inr (74, 0)), .inl (zW ((zW (40 * p1)) + p2)), .inr (.inr (76, 0))]) (σ' := σ) 10 rfl ?_
            refine zX_ald1 (L := 4) rfl (by decide) rfl (o3 a1 a2 a3 a4 a5) ?_
            refine zX_i1 rfl (fun a6 => ?_) (fun a6 => ?_)
            · skip
              refine zX_run (n' := 43) (ls' := [some (.inr (.inr (10, 0))), some (.inl p1), some (.inl p2), some (.inl p3)]) (st' := [.inl p1, .inr (.inr (74, 0)), .inl (zW ((zW (40 * p1)) + p2)), .inr (.inr (76, 0))]) (σ' := σ) 3 rfl ?_
              refine zX_ald1 (L := 4) rfl (by decide) rfl (o4 a1 a2 a3 a4 a5 a6) ?_
              refine zX_run (n' := 45) (ls' := [some (.inr (.inr (10, 0))), some (.inl p1), some (.inl p2), some (.inl p3)]) (st' := [.inl 1, .inl (σ.1 74 0 (p1.toNat)), .inl (zW ((zW (40 * p1)) + p2)), .inr (.inr (76, 0))]) (σ' := σ) 1 rfl ?_
              refine zX_c1 rfl (fun a7 => ?_) (fun a7 => ?_)
              · skip
                refine zX_run (n' := 50) (ls' := [some (.inr (.inr (10, 0))), some (.inl p1), some (.inl p2), some (.inl p3)]) (st' := [.inl p3, .inl (zW ((zW (40 * p1)) + p2)), .inr (.inr (76, 0))]) (σ' := σ) 1 rfl ?_
                refine zX_ast1 (L := 160) rfl (by decide) rfl (o5 a1 a2 a3 a4 a5 a6 a7) ?_
                refine zX_run (n' := 52) (ls' := [some (.inr (.inr (10, 0))), some (.inl p1), some (.inl p2), some (.inl p3)]) (st' := [.inl 1]) (σ' := (zU σ 76 0 ((zW ((zW (40 * p1)) + p2)).toNat) p3)) 1 rfl ?_
                exact zX_ret rfl rfl (h3 a1 a2 a3 a4 a5 a6 a7)
              · skip
                refine zX_run (n' := 50) (ls' := [some (.inr (.inr (10, 0))), some (.inl p1), some (.inl p2), some (.inl p3)]) (st' := [.inl ((p3 + 32768) % 65536 - 32768), .inl (zW ((zW (40 * p1)) + p2)), .inr (.inr (76, 0))]) (σ' := σ) 3 rfl ?_
                refine zX_ast1 (L := 160) rfl (by decide) rfl (o6 a1 a2 a3 a4 a5 a6 a7) ?_
                refine zX_run (n' := 52) (ls' := [some (.inr (.inr (10, 0))), some (.inl p1), some (.inl p2), some (.inl p3)]) (st' := [.inl 1]) (σ' := (zU σ 76 0 ((zW ((zW (40 * p1)) + p2)).toNat) ((p3 + 32768) % 65536 - 32768))) 1 rfl ?_
                exact zX_ret rfl rfl (h4 a1 a2 a3 a4 a5 a6 a7)
            · skip
              refine zX_run (n' := 50) (ls' := [some (.inr (.inr (10, 0))), some (.inl p1), some (.inl p2), some (.inl p3)]) (st' := [.inl ((p3 + 128) % 256 - 128), .inl (zW ((zW (40 * p1)) + p2)), .inr (.inr (76, 0))]) (σ' := σ) 3 rfl ?_
              refine zX_ast1 (L := 160) rfl (by decide) rfl (o7 a1 a2 a3 a4 a5 a6) ?_
              refine zX_run (n' := 52) (ls' := [some (.inr (.inr (10, 0))), some (.inl p1), some (.inl p2), some (.inl p3)]) (st' := [.inl 1]) (σ' := (zU σ 76 0 ((zW ((zW (40 * p1)) + p2)).toNat) ((p3 + 128) % 256 - 128))) 1 rfl ?_
              exact zX_ret rfl rfl (h5 a1 a2 a3 a4 a5 a6)
          · skip
            refine zX_run (n' := 24) (ls' := [some (.inr (.inr (10, 0))), some (.inl p1), some (.inl p2), some (.inl p3)]) (st' := [.inl (-12)]) (σ' := σ) 1 rfl ?_
            exact zX_ret rfl rfl (h6 a1 a2 a3 a4 a5)
      · skip
        refine zX_run (n' := 14) (ls' := [some (.inr (.inr (10, 0))), some (.inl p1), some (.inl p2), some (.inl p3)]) (st' := [.inl (-11)]) (σ' := σ) 1 rfl ?_
        exact zX_ret rfl rfl (h7 a1 a2 a3)
    · skip
      refine zX_run (n' := 6) (ls' := [some (.inr (.inr (10, 0))), some (.inl p1), some (.inl p2), some (.inl p3)]) (st' := [.inl (-2)]) (σ' := σ) 1 rfl ?_
      exact zX_ret rfl rfl (h8 a1 a2)
