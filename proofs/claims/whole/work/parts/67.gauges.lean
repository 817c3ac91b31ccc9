-- gauges (wip/whole/gen/laws42.py)
-- X9_gauges
theorem zb_102 {d : Nat} {σ : zS} {Q : Option zV → zS → Prop} {r : Int} {m : Int} {s : Int} {o : Int} {f : Int} {n : Int}
    (o1 : 0 ≤ r ∧ r ≤ 6 → 0 ≤ m ∧ m ≤ 95 → 0 ≤ s ∧ s ≤ 3 → 0 ≤ o ∧ o ≤ 2 → 0 ≤ n ∧ n ≤ 24 → (0 : Int) ≤ s ∧ s < (4 : Int))
    (h1 : 0 ≤ r ∧ r ≤ 6 → 0 ≤ m ∧ m ≤ 95 → 0 ≤ s ∧ s ≤ 3 → 0 ≤ o ∧ o ≤ 2 → 0 ≤ n ∧ n ≤ 24 → σ.1 6 (4 * 0 + s.toNat) 1 = (-1) → Q (some (.inl (-11))) σ)
    (h2 : 0 ≤ r ∧ r ≤ 6 → 0 ≤ m ∧ m ≤ 95 → 0 ≤ s ∧ s ≤ 3 → 0 ≤ o ∧ o ≤ 2 → 0 ≤ n ∧ n ≤ 24 → ¬ σ.1 6 (4 * 0 + s.toNat) 1 = (-1) → σ.1 6 (4 * 0 + s.toNat) 1 = o → zX (d + 14) 102 46 [some (.inr (.inr (9, 0))), some (.inl r), some (.inl m), some (.inl s), some (.inl o), some (.inl f), some (.inl n), some (.inr (.inr (6, 4 * 0 + s.toNat))), some (.inl 0), some (.inl 0)] [] σ Q)
    (h3 : 0 ≤ r ∧ r ≤ 6 → 0 ≤ m ∧ m ≤ 95 → 0 ≤ s ∧ s ≤ 3 → 0 ≤ o ∧ o ≤ 2 → 0 ≤ n ∧ n ≤ 24 → ¬ σ.1 6 (4 * 0 + s.toNat) 1 = (-1) → ¬ σ.1 6 (4 * 0 + s.toNat) 1 = o → Q (some (.inl (-13))) σ)
    (h4 : 0 ≤ r ∧ r ≤ 6 → 0 ≤ m ∧ m ≤ 95 → 0 ≤ s ∧ s ≤ 3 → 0 ≤ o ∧ o ≤ 2 → ¬ (0 ≤ n ∧ n ≤ 24) → Q (some (.inl (-2))) σ)
    (h5 : 0 ≤ r ∧ r ≤ 6 → 0 ≤ m ∧ m ≤ 95 → 0 ≤ s ∧ s ≤ 3 → ¬ (0 ≤ o ∧ o ≤ 2) → Q (some (.inl (-2))) σ)
    (h6 : 0 ≤ r ∧ r ≤ 6 → 0 ≤ m ∧ m ≤ 95 → ¬ (0 ≤ s ∧ s ≤ 3) → Q (some (.inl (-2))) σ)
    (h7 : 0 ≤ r ∧ r ≤ 6 → ¬ (0 ≤ m ∧ m ≤ 95) → Q (some (.inl (-2))) σ)
    (h8 : ¬ (0 ≤ r ∧ r ≤ 6) → Q (some (.inl (-2))) σ) :
    zM (d + 14) 102 [.inr (.inr (9, 0)), .inl r, .inl m, .inl s, .inl o, .inl f, .inl n] σ Q := by
  refine zX_run (n' := 1) (ls' := [some (.inr (.inr (9, 0))), some (.inl r), some (.inl m), some (.inl s), some (.inl o), some (.inl f), some (.inl n), none, none, none]) (st' := [.inl r]) (σ' := σ) 1 rfl ?_
  refine zX_call rfl rfl ?_
  refine zs_105 (fun a1 => ?_) (fun a2 => ?_)
  · skip
    refine zX_run (n' := 4) (ls' := [some (.inr (.inr (9, 0))), some (.inl r), some (.inl m), some (.inl s), some (.inl o), some (.inl f), some (.inl n), none, none, none]) (st' := [.inl m]) (σ' := σ) 2 rfl ?_
    refine zX_call rfl rfl ?_
    refine zs_106 (fun a3 => ?_) (fun a4 => ?_)
    · skip
      refine zX_run (n' := 7) (ls' := [some (.inr (.inr (9, 0))), some (.inl r), some (.inl m), some (.inl s), some (.inl o), some (.inl f), some (.inl n), none, none, none]) (st' := [.inl s]) (σ' := σ) 2 rfl ?_
      refine zX_call rfl rfl ?_
      refine zs_110 (fun a5 => ?_) (fun a6 => ?_)
      · skip
        refine zX_run (n' := 12) (ls' := [some (.inr (.inr (9, 0))), some (.inl r), some (.inl m), some (.inl s), some (.inl o), some (.inl f), some (.inl n), none, none, none]) (st' := [.inl 2, .inl 0, .inl o]) (σ' := σ) 4 rfl ?_
        refine zX_call rfl rfl ?_
        refine zs_104 (fun a7 => ?_) (fun a8 => ?_)
        · skip
          refine zX_run (n' := 17) (ls' := [some (.inr (.inr (9, 0))), some (.inl r), some (.inl m), some (.inl s), some (.inl o), some (.inl f), some (.inl n), none, none, none]) (st' := [.inl 24, .inl 0, .inl n]) (σ' := σ) 4 rfl ?_
          refine zX_call rfl rfl ?_
          refine zs_104 (fun a9 => ?_) (fun a10 => ?_)
          · skip
            refine zX_run (n' := 24) (ls' := [some (.inr (.inr (9, 0))), some (.inl r), some (.inl m), some (.inl s), some (.inl o), some (.inl f), some (.inl n), none, none, none]) (st' := [.inl s, .inr (.inr (46, 0))]) (σ' := σ) 4 rfl ?_
            refine zX_ald5 (L := 4) rfl (by decide) rfl (o1 a1 a3 a5 a7 a9) ?_
            refine zX_run (n' := 29) (ls' := [some (.inr (.inr (9, 0))), some (.inl r), some (.inl m), some (.inl s), some (.inl o), some (.inl f), some (.inl n), some (.inr (.inr (6, 4 * 0 + s.toNat))), none, none]) (st' := [.inl (-1), .inl (σ.1 6 (4 * 0 + s.toNat) 1)]) (σ' := σ) 4 rfl ?_
            refine zX_c0 rfl (fun a11 => ?_) (fun a11 => ?_)
            · skip
              refine zX_run (n' := 39) (ls' := [some (.inr (.inr (9, 0))), some (.inl r), some (.inl m), some (.inl s), some (.inl o), some (.inl f), some (.inl n), some (.inr (.inr (6, 4 * 0 + s.toNat))), none, none]) (st' := [.inl (-1), .inl (σ.1 6 (4 * 0 + s.toNat) 1)]) (σ' := σ) 3 rfl ?_
              refine zX_c1 rfl (fun a12 => absurd a12 (by clear h1 h2 h3 h4 h5 h6 h7 h8 o1; omega)) (fun _ => ?_)
              refine zX_run (n' := 41) (ls' := [some (.inr (.inr (9, 0))), some (.inl r), some (.inl m), some (.inl s), some (.inl o), some (.inl f), some (.inl n), some (.inr (.inr (6, 4 * 0 + s.toNat))), none, none]) (st' := [.inl (-11)]) (σ' := σ) 1 rfl ?_
              exact zX_ret rfl rfl (h1 a1 a3 a5 a7 a9 a11)
            · skip
              refine zX_run (n' := 33) (ls' := [some (.inr (.inr (9, 0))), some (.inl r), some (.inl m), some (.inl s), some (.inl o), some (.inl f), some (.inl n), some (.inr (.inr (6, 4 * 0 + s.toNat))), none, none]) (st' := [.inl o, .inl (σ.1 6 (4 * 0 + s.toNat) 1)]) (σ' := σ) 3 rfl ?_
              refine zX_c0 rfl (fun a13 => ?_) (fun a13 => ?_)
              · skip
                refine zX_run (n' := 39) (ls' := [some (.inr (.inr (9, 0))), some (.inl r), some (.inl m), some (.inl s), some (.inl o), some (.inl f), some (.inl n), some (.inr (.inr (6, 4 * 0 + s.toNat))), none, none]) (st' := [.inl (-1), .inl (σ.1 6 (4 * 0 + s.toNat) 1)]) (σ' := σ) 3 rfl ?_
                refine zX_c1 rfl (fun _ => ?_) (fun a14 => absurd a14 (by clear h1 h2 h3 h4 h5 h6 h7 h8 o1; omega))
                refine zX_run (n' := 46) (ls' := [some (.inr (.inr (9, 0))), some (.inl r), some (.inl m), some (.inl s), some (.inl o), some (.inl f), some (.inl n), some (.inr (.inr (6, 4 * 0 + s.toNat))), some (.inl 0), some (.inl 0)]) (st' := []) (σ' := σ) 4 rfl ?_
                exact h2 a1 a3 a5 a7 a9 a11 a13
              · skip
                refine zX_run (n' := 35) (ls' := [some (.inr (.inr (9, 0))), some (.inl r), some (.inl m), some (.inl s), some (.inl o), some (.inl f), some (.inl n), some (.inr (.inr (6, 4 * 0 + s.toNat))), none, none]) (st' := [.inl (-13)]) (σ' := σ) 1 rfl ?_
                exact zX_ret rfl rfl (h3 a1 a3 a5 a7 a9 a11 a13)
          · skip
            refine zX_run (n' := 20) (ls' := [some (.inr (.inr (9, 0))), some (.inl r), some (.inl m), some (.inl s), some (.inl o), some (.inl f), some (.inl n), none, none, none]) (st' := [.inl (-2)]) (σ' := σ) 2 rfl ?_
            exact zX_ret rfl rfl (h4 a1 a3 a5 a7 a10)
        · skip
          refine zX_run (n' := 20) (ls' := [some (.inr (.inr (9, 0))), some (.inl r), some (.inl m), some (.inl s), some (.inl o), some (.inl f), some (.inl n), none, none, none]) (st' := [.inl (-2)]) (σ' := σ) 2 rfl ?_
          exact zX_ret rfl rfl (h5 a1 a3 a5 a8)
      · skip
        refine zX_run (n' := 20) (ls' := [some (.inr (.inr (9, 0))), some (.inl r), some (.inl m), some (.inl s), some (.inl o), some (.inl f), some (.inl n), none, none, none]) (st' := [.inl (-2)]) (σ' := σ) 2 rfl ?_
        exact zX_ret rfl rfl (h6 a1 a3 a6)
    · skip
      refine zX_run (n' := 20) (ls' := [some (.inr (.inr (9, 0))), some (.inl r), some (.inl m), some (.inl s), some (.inl o), some (.inl f), some (.inl n), none, none, none]) (st' := [.inl (-2)]) (σ' := σ) 2 rfl ?_
      exact zX_ret rfl rfl (h7 a1 a4)
  · skip
    refine zX_run (n' := 20) (ls' := [some (.inr (.inr (9, 0))), some (.inl r), some (.inl m), some (.inl s), some (.inl o), some (.inl f), some (.inl n), none, none, none]) (st' := [.inl (-2)]) (σ' := σ) 2 rfl ?_
    exact zX_ret rfl rfl (h8 a2)
-- X10_gauges
theorem zb_187 {d : Nat} {σ : zS} {Q : Option zV → zS → Prop} {r : Int} {m : Int} {s : Int} {o : Int} {f : Int} {n : Int}
    (o1 : 0 ≤ r ∧ r < 7 → 0 ≤ m ∧ m < 96 → ¬ s < 0 → ¬ 3 < s → ¬ o < 0 → ¬ 2 < o → ¬ n < 0 → n ≤ 24 → (0 : Int) ≤ s ∧ s < (4 : Int))
    (h1 : 0 ≤ r ∧ r < 7 → 0 ≤ m ∧ m < 96 → s < 0 → Q (some (.inl (-2))) σ)
    (h2 : 0 ≤ r ∧ r < 7 → 0 ≤ m ∧ m < 96 → ¬ s < 0 → 3 < s → Q (some (.inl (-2))) σ)
    (h3 : 0 ≤ r ∧ r < 7 → 0 ≤ m ∧ m < 96 → ¬ s < 0 → ¬ 3 < s → o < 0 → Q (some (.inl (-2))) σ)
    (h4 : 0 ≤ r ∧ r < 7 → 0 ≤ m ∧ m < 96 → ¬ s < 0 → ¬ 3 < s → ¬ o < 0 → 2 < o → Q (some (.inl (-2))) σ)
    (h5 : 0 ≤ r ∧ r < 7 → 0 ≤ m ∧ m < 96 → ¬ s < 0 → ¬ 3 < s → ¬ o < 0 → ¬ 2 < o → n < 0 → Q (some (.inl (-2))) σ)
    (h6 : 0 ≤ r ∧ r < 7 → 0 ≤ m ∧ m < 96 → ¬ s < 0 → ¬ 3 < s → ¬ o < 0 → ¬ 2 < o → ¬ n < 0 → n ≤ 24 → ¬ σ.1 74 0 (s.toNat) = (-1) → σ.1 74 0 (s.toNat) = o → zX (d + 4) 187 43 [some (.inr (.inr (10, 0))), some (.inl r), some (.inl m), some (.inl s), some (.inl o), some (.inl f), some (.inl n), some (.inl 0), some (.inl 0), none, none, none] [] σ Q)
    (h7 : 0 ≤ r ∧ r < 7 → 0 ≤ m ∧ m < 96 → ¬ s < 0 → ¬ 3 < s → ¬ o < 0 → ¬ 2 < o → ¬ n < 0 → n ≤ 24 → ¬ σ.1 74 0 (s.toNat) = (-1) → ¬ σ.1 74 0 (s.toNat) = o → Q (some (.inl (-13))) σ)
    (h8 : 0 ≤ r ∧ r < 7 → 0 ≤ m ∧ m < 96 → ¬ s < 0 → ¬ 3 < s → ¬ o < 0 → ¬ 2 < o → ¬ n < 0 → n ≤ 24 → σ.1 74 0 (s.toNat) = (-1) → Q (some (.inl (-11))) σ)
    (h9 : 0 ≤ r ∧ r < 7 → 0 ≤ m ∧ m < 96 → ¬ s < 0 → ¬ 3 < s → ¬ o < 0 → ¬ 2 < o → ¬ n < 0 → ¬ n ≤ 24 → Q (some (.inl (-2))) σ)
    (h10 : 0 ≤ r ∧ r < 7 → ¬ (0 ≤ m ∧ m < 96) → Q (some (.inl (-2))) σ)
    (h11 : ¬ (0 ≤ r ∧ r < 7) → Q (some (.inl (-2))) σ) :
    zM (d + 4) 187 [.inr (.inr (10, 0)), .inl r, .inl m, .inl s, .inl o, .inl f, .inl n] σ Q := by
  refine zX_run (n' := 1) (ls' := [some (.inr (.inr (10, 0))), some (.inl r), some (.inl m), some (.inl s), some (.inl o), some (.inl f), some (.inl n), none, none, none, none, none]) (st' := [.inl r]) (σ' := σ) 1 rfl ?_
  refine zX_call rfl rfl ?_
  refine zs_119 (fun a1 => ?_) (fun a2 => ?_)
  · skip
    refine zX_run (n' := 4) (ls' := [some (.inr (.inr (10, 0))), some (.inl r), some (.inl m), some (.inl s), some (.inl o), some (.inl f), some (.inl n), none, none, none, none, none]) (st' := [.inl m]) (σ' := σ) 2 rfl ?_
    refine zX_call rfl rfl ?_
    refine zs_120 (fun a3 => ?_) (fun a4 => ?_)
    · skip
      refine zX_run (n' := 7) (ls' := [some (.inr (.inr (10, 0))), some (.inl r), some (.inl m), some (.inl s), some (.inl o), some (.inl f), some (.inl n), none, none, none, none, none]) (st' := [.inl s]) (σ' := σ) 2 rfl ?_
      refine zX_i2 rfl (fun a5 => ?_) (fun a5 => ?_)
      · skip
        refine zX_run (n' := 22) (ls' := [some (.inr (.inr (10, 0))), some (.inl r), some (.inl m), some (.inl s), some (.inl o), some (.inl f), some (.inl n), none, none, none, none, none]) (st' := [.inl (-2)]) (σ' := σ) 1 rfl ?_
        exact zX_ret rfl rfl (h1 a1 a3 a5)
      · skip
        refine zX_run (n' := 10) (ls' := [some (.inr (.inr (10, 0))), some (.inl r), some (.inl m), some (.inl s), some (.inl o), some (.inl f), some (.inl n), none, none, none, none, none]) (st' := [.inl 3, .inl s]) (σ' := σ) 2 rfl ?_
        refine zX_c4 rfl (fun a6 => ?_) (fun a6 => ?_)
        · skip
          refine zX_run (n' := 22) (ls' := [some (.inr (.inr (10, 0))), some (.inl r), some (.inl m), some (.inl s), some (.inl o), some (.inl f), some (.inl n), none, none, none, none, none]) (st' := [.inl (-2)]) (σ' := σ) 1 rfl ?_
          exact zX_ret rfl rfl (h2 a1 a3 a5 a6)
        · skip
          refine zX_run (n' := 12) (ls' := [some (.inr (.inr (10, 0))), some (.inl r), some (.inl m), some (.inl s), some (.inl o), some (.inl f), some (.inl n), none, none, none, none, none]) (st' := [.inl o]) (σ' := σ) 1 rfl ?_
          refine zX_i2 rfl (fun a7 => ?_) (fun a7 => ?_)
          · skip
            refine zX_run (n' := 22) (ls' := [some (.inr (.inr (10, 0))), some (.inl r), some (.inl m), some (.inl s), some (.inl o), some (.inl f), some (.inl n), none, none, none, none, none]) (st' := [.inl (-2)]) (σ' := σ) 1 rfl ?_
            exact zX_ret rfl rfl (h3 a1 a3 a5 a6 a7)
          · skip
            refine zX_run (n' := 15) (ls' := [some (.inr (.inr (10, 0))), some (.inl r), some (.inl m), some (.inl s), some (.inl o), some (.inl f), some (.inl n), none, none, none, none, none]) (st' := [.inl 2, .inl o]) (σ' := σ) 2 rfl ?_
            refine zX_c4 rfl (fun a8 => ?_) (fun a8 => ?_)
            · skip
              refine zX_run (n' := 22) (ls' := [some (.inr (.inr (10, 0))), some (.inl r), some (.inl m), some (.inl s), some (.inl o), some (.inl f), some (.inl n), none, none, none, none, none]) (st' := [.inl (-2)]) (σ' := σ) 1 rfl ?_
              exact zX_ret rfl rfl (h4 a1 a3 a5 a6 a7 a8)
            · skip
              refine zX_run (n' := 17) (ls' := [some (.inr (.inr (10, 0))), some (.inl r), some (.inl m), some (.inl s), some (.inl o), some (.inl f), some (.inl n), none, none, none, none, none]) (st' := [.inl n]) (σ' := σ) 1 rfl ?_
              refine zX_i2 rfl (fun a9 => ?_) (fun a9 => ?_)
              · skip
                refine zX_run (n' := 22) (ls' := [some (.inr (.inr (10, 0))), some (.inl r), some (.inl m), some (.inl s), some (.inl o), some (.inl f), some (.inl n), none, none, none, none, none]) (st' := [.inl (-2)]) (σ' := σ) 1 rfl ?_
                exact zX_ret rfl rfl (h5 a1 a3 a5 a6 a7 a8 a9)
              · skip
                refine zX_run (n' := 20) (ls' := [some (.inr (.inr (10, 0))), some (.inl r), some (.inl m), some (.inl s), some (.inl o), some (.inl f), some (.inl n), none, none, none, none, none]) (st' := [.inl 24, .inl n]) (σ' := σ) 2 rfl ?_
                refine zX_c5 rfl (fun a10 => ?_) (fun a10 => ?_)
                · skip
                  refine zX_run (n' := 26) (ls' := [some (.inr (.inr (10, 0))), some (.inl r), some (.inl m), some (.inl s), some (.inl o), some (.inl f), some (.inl n), none, none, none, none, none]) (st' := [.inl s, .inr (.inr (74, 0))]) (σ' := σ) 3 rfl ?_
                  refine zX_ald1 (L := 4) rfl (by decide) rfl (o1 a1 a3 a5 a6 a7 a8 a9 a10) ?_
                  refine zX_run (n' := 28) (ls' := [some (.inr (.inr (10, 0))), some (.inl r), some (.inl m), some (.inl s), some (.inl o), some (.inl f), some (.inl n), none, none, none, none, none]) (st' := [.inl (-1), .inl (σ.1 74 0 (s.toNat))]) (σ' := σ) 1 rfl ?_
                  refine zX_c1 rfl (fun a11 => ?_) (fun a11 => ?_)
                  · skip
                    refine zX_run (n' := 34) (ls' := [some (.inr (.inr (10, 0))), some (.inl r), some (.inl m), some (.inl s), some (.inl o), some (.inl f), some (.inl n), none, none, none, none, none]) (st' := [.inl s, .inr (.inr (74, 0))]) (σ' := σ) 3 rfl ?_
                    refine zX_ald1 (L := 4) rfl (by decide) rfl (o1 a1 a3 a5 a6 a7 a8 a9 a10) ?_
                    refine zX_run (n' := 36) (ls' := [some (.inr (.inr (10, 0))), some (.inl r), some (.inl m), some (.inl s), some (.inl o), some (.inl f), some (.inl n), none, none, none, none, none]) (st' := [.inl o, .inl (σ.1 74 0 (s.toNat))]) (σ' := σ) 1 rfl ?_
                    refine zX_c0 rfl (fun a12 => ?_) (fun a12 => ?_)
                    · skip
                      refine zX_run (n' := 43) (ls' := [some (.inr (.inr (10, 0))), some (.inl r), some (.inl m), some (.inl s), some (.inl o), some (.inl f), some (.inl n), some (.inl 0), some (.inl 0), none, none, none]) (st' := []) (σ' := σ) 4 rfl ?_
                      exact h6 a1 a3 a5 a6 a7 a8 a9 a10 a11 a12
                    · skip
                      refine zX_run (n' := 38) (ls' := [some (.inr (.inr (10, 0))), some (.inl r), some (.inl m), some (.inl s), some (.inl o), some (.inl f), some (.inl n), none, none, none, none, none]) (st' := [.inl (-13)]) (σ' := σ) 1 rfl ?_
                      exact zX_ret rfl rfl (h7 a1 a3 a5 a6 a7 a8 a9 a10 a11 a12)
                  · skip
                    refine zX_run (n' := 30) (ls' := [some (.inr (.inr (10, 0))), some (.inl r), some (.inl m), some (.inl s), some (.inl o), some (.inl f), some (.inl n), none, none, none, none, none]) (st' := [.inl (-11)]) (σ' := σ) 1 rfl ?_
                    exact zX_ret rfl rfl (h8 a1 a3 a5 a6 a7 a8 a9 a10 a11)
                · skip
                  refine zX_run (n' := 22) (ls' := [some (.inr (.inr (10, 0))), some (.inl r), some (.inl m), some (.inl s), some (.inl o), some (.inl f), some (.inl n), none, none, none, none, none]) (st' := [.inl (-2)]) (σ' := σ) 1 rfl ?_
                  exact zX_ret rfl rfl (h9 a1 a3 a5 a6 a7 a8 a9 a10)
    · skip
      refine zX_run (n' := 22) (ls' := [some (.inr (.inr (10, 0))), some (.inl r), some (.inl m), some (.inl s), some (.inl o), some (.inl f), some (.inl n), none, none, none, none, none]) (st' := [.inl (-2)]) (σ' := σ) 2 rfl ?_
      exact zX_ret rfl rfl (h10 a1 a4)
  · skip
    refine zX_run (n' := 22) (ls' := [some (.inr (.inr (10, 0))), some (.inl r), some (.inl m), some (.inl s), some (.inl o), some (.inl f), some (.inl n), none, none, none, none, none]) (st' := [.inl (-2)]) (σ' := σ) 2 rfl ?_
    exact zX_ret rfl rfl (h11 a2)
-- X9_gauges
theorem zb_102a {d : Nat} {σ : zS} {Q : Option zV → zS → Prop} {a : Nat} {r m s o f n c k : Int}
    (o1 : ¬ n ≤ k → ¬ (zW (f + k)) < 0 → ¬ σ.1 6 a 2 ≤ (zW (f + k)) → (0 : Int) ≤ zW (f + k) ∧ zW (f + k) < (40 : Int))
    (h1 : n ≤ k → Q (some (.inl c)) σ)
    (h2 : ¬ n ≤ k → (zW (f + k)) < 0 → Q (some (.inl (-12))) σ)
    (h3 : ¬ n ≤ k → ¬ (zW (f + k)) < 0 → σ.1 6 a 2 ≤ (zW (f + k)) → Q (some (.inl (-12))) σ)
    (h4 : ¬ n ≤ k → ¬ (zW (f + k)) < 0 → ¬ σ.1 6 a 2 ≤ (zW (f + k)) → zX (d + 14) 102 68 [some (.inr (.inr (9, 0))), some (.inl r), some (.inl m), some (.inl s), some (.inl o), some (.inl f), some (.inl n), some (.inr (.inr (6, a))), some (.inl c), some (.inl k)] [.inl (σ.1 32 a ((zW (f + k)).toNat)), .inl (zW (m + k)), .inl r, .inr (.inr (9, 0))] σ Q) :
    zX (d + 14) 102 46 [some (.inr (.inr (9, 0))), some (.inl r), some (.inl m), some (.inl s), some (.inl o), some (.inl f), some (.inl n), some (.inr (.inr (6, a))), some (.inl c), some (.inl k)] [] σ Q := by
  refine zX_run (n' := 48) (ls' := [some (.inr (.inr (9, 0))), some (.inl r), some (.inl m), some (.inl s), some (.inl o), some (.inl f), some (.inl n), some (.inr (.inr (6, a))), some (.inl c), some (.inl k)]) (st' := [.inl n, .inl k]) (σ' := σ) 2 rfl ?_
  refine zX_c3 rfl (fun a1 => ?_) (fun a1 => ?_)
  · skip
    refine zX_run (n' := 74) (ls' := [some (.inr (.inr (9, 0))), some (.inl r), some (.inl m), some (.inl s), some (.inl o), some (.inl f), some (.inl n), some (.inr (.inr (6, a))), some (.inl c), some (.inl k)]) (st' := [.inl c]) (σ' := σ) 1 rfl ?_
    exact zX_ret rfl rfl (h1 a1)
  · skip
    refine zX_run (n' := 53) (ls' := [some (.inr (.inr (9, 0))), some (.inl r), some (.inl m), some (.inl s), some (.inl o), some (.inl f), some (.inl n), some (.inr (.inr (6, a))), some (.inl c), some (.inl k)]) (st' := [.inl (zW (f + k)), .inr (.inr (6, a))]) (σ' := σ) 4 rfl ?_
    refine zX_call rfl rfl ?_
    refine zm_55 (fun a2 => ?_) (fun a3 a4 => ?_) (fun a5 a6 => ?_)
    · skip
      refine zX_run (n' := 56) (ls' := [some (.inr (.inr (9, 0))), some (.inl r), some (.inl m), some (.inl s), some (.inl o), some (.inl f), some (.inl n), some (.inr (.inr (6, a))), some (.inl c), some (.inl k)]) (st' := [.inl (-12)]) (σ' := σ) 2 rfl ?_
      exact zX_ret rfl rfl (h2 a1 a2)
    · skip
      refine zX_run (n' := 56) (ls' := [some (.inr (.inr (9, 0))), some (.inl r), some (.inl m), some (.inl s), some (.inl o), some (.inl f), some (.inl n), some (.inr (.inr (6, a))), some (.inl c), some (.inl k)]) (st' := [.inl (-12)]) (σ' := σ) 2 rfl ?_
      exact zX_ret rfl rfl (h3 a1 a3 a4)
    · skip
      refine zX_run (n' := 67) (ls' := [some (.inr (.inr (9, 0))), some (.inl r), some (.inl m), some (.inl s), some (.inl o), some (.inl f), some (.inl n), some (.inr (.inr (6, a))), some (.inl c), some (.inl k)]) (st' := [.inl (zW (f + k)), .inr (.inr (32, a)), .inl (zW (m + k)), .inl r, .inr (.inr (9, 0))]) (σ' := σ) 11 rfl ?_
      refine zX_ald1 (L := 40) rfl (by decide) rfl (o1 a1 a5 a6) ?_
      exact h4 a1 a5 a6
-- X9_gauges
theorem zb_102b {d : Nat} {σ : zS} {Q : Option zV → zS → Prop} {a : Nat} {r m s o f n c k v : Int}
    (h1 : v < 0 → zX (d + 14) 102 46 [some (.inr (.inr (9, 0))), some (.inl r), some (.inl m), some (.inl s), some (.inl o), some (.inl f), some (.inl n), some (.inr (.inr (6, a))), some (.inl c), some (.inl (zW (k + 1)))] [] σ Q)
    (h2 : ¬ v < 0 → zX (d + 14) 102 46 [some (.inr (.inr (9, 0))), some (.inl r), some (.inl m), some (.inl s), some (.inl o), some (.inl f), some (.inl n), some (.inr (.inr (6, a))), some (.inl (zW (c + 1))), some (.inl (zW (k + 1)))] [] σ Q) :
    zX (d + 14) 102 69 [some (.inr (.inr (9, 0))), some (.inl r), some (.inl m), some (.inl s), some (.inl o), some (.inl f), some (.inl n), some (.inr (.inr (6, a))), some (.inl c), some (.inl k)] [.inl v] σ Q := by
  refine zX_i2 rfl (fun a1 => ?_) (fun a1 => ?_)
  · skip
    refine zX_run (n' := 46) (ls' := [some (.inr (.inr (9, 0))), some (.inl r), some (.inl m), some (.inl s), some (.inl o), some (.inl f), some (.inl n), some (.inr (.inr (6, a))), some (.inl c), some (.inl (zW (k + 1)))]) (st' := []) (σ' := σ) 2 rfl ?_
    exact h1 a1
  · skip
    refine zX_run (n' := 46) (ls' := [some (.inr (.inr (9, 0))), some (.inl r), some (.inl m), some (.inl s), some (.inl o), some (.inl f), some (.inl n), some (.inr (.inr (6, a))), some (.inl (zW (c + 1))), some (.inl (zW (k + 1)))]) (st' := []) (σ' := σ) 3 rfl ?_
    exact h2 a1
-- X10_gauges
theorem zb_187a {d : Nat} {σ : zS} {Q : Option zV → zS → Prop} {r m s o f n c k : Int} {x x2 x3 : Option zV}
    (o1 : ¬ n ≤ k → 0 < zWl (f + k) → (0 : Int) ≤ s ∧ s < (4 : Int))
    (o2 : ¬ n ≤ k → 0 < zWl (f + k) → zWl (f + k) < σ.1 75 0 (s.toNat) → (0 : Int) ≤ zW ((zW (40 * s)) + (zW (zWl (f + k)))) ∧ zW ((zW (40 * s)) + (zW (zWl (f + k)))) < (160 : Int))
    (o3 : ¬ n ≤ k → zWl (f + k) = 0 → (0 : Int) ≤ s ∧ s < (4 : Int))
    (o4 : ¬ n ≤ k → zWl (f + k) = 0 → zWl (f + k) < σ.1 75 0 (s.toNat) → (0 : Int) ≤ zW ((zW (40 * s)) + (zW (zWl (f + k)))) ∧ zW ((zW (40 * s)) + (zW (zWl (f + k)))) < (160 : Int))
    (h1 : n ≤ k → Q (some (.inl c)) σ)
    (h2 : ¬ n ≤ k → 0 < zWl (f + k) → σ.1 75 0 (s.toNat) < zWl (f + k) → Q (some (.inl (-12))) σ)
    (h3 : ¬ n ≤ k → 0 < zWl (f + k) → zWl (f + k) = σ.1 75 0 (s.toNat) → Q (some (.inl (-12))) σ)
    (h4 : ¬ n ≤ k → 0 < zWl (f + k) → zWl (f + k) < σ.1 75 0 (s.toNat) → zX (d + 4) 187 82 [some (.inr (.inr (10, 0))), some (.inl r), some (.inl m), some (.inl s), some (.inl o), some (.inl f), some (.inl n), some (.inl c), some (.inl k), some (.inr (.inl (zWl (f + k)))), none, some (.inl (σ.1 76 0 ((zW ((zW (40 * s)) + (zW (zWl (f + k))))).toNat)))] [.inl (σ.1 76 0 ((zW ((zW (40 * s)) + (zW (zWl (f + k))))).toNat)), .inl (zW (m + k)), .inl r, .inr (.inr (10, 0))] σ Q)
    (h5 : ¬ n ≤ k → zWl (f + k) = 0 → σ.1 75 0 (s.toNat) < zWl (f + k) → Q (some (.inl (-12))) σ)
    (h6 : ¬ n ≤ k → zWl (f + k) = 0 → zWl (f + k) = σ.1 75 0 (s.toNat) → Q (some (.inl (-12))) σ)
    (h7 : ¬ n ≤ k → zWl (f + k) = 0 → zWl (f + k) < σ.1 75 0 (s.toNat) → zX (d + 4) 187 82 [some (.inr (.inr (10, 0))), some (.inl r), some (.inl m), some (.inl s), some (.inl o), some (.inl f), some (.inl n), some (.inl c), some (.inl k), some (.inr (.inl (zWl (f + k)))), none, some (.inl (σ.1 76 0 ((zW ((zW (40 * s)) + (zW (zWl (f + k))))).toNat)))] [.inl (σ.1 76 0 ((zW ((zW (40 * s)) + (zW (zWl (f + k))))).toNat)), .inl (zW (m + k)), .inl r, .inr (.inr (10, 0))] σ Q)
    (h8 : ¬ n ≤ k → zWl (f + k) < 0 → Q (some (.inl (-12))) σ) :
    zX (d + 4) 187 43 [some (.inr (.inr (10, 0))), some (.inl r), some (.inl m), some (.inl s), some (.inl o), some (.inl f), some (.inl n), some (.inl c), some (.inl k), x, x2, x3] [] σ Q := by
  refine zX_run (n' := 45) (ls' := [some (.inr (.inr (10, 0))), some (.inl r), some (.inl m), some (.inl s), some (.inl o), some (.inl f), some (.inl n), some (.inl c), some (.inl k), x, x2, x3]) (st' := [.inl n, .inl k]) (σ' := σ) 2 rfl ?_
  refine zX_c3 rfl (fun a1 => ?_) (fun a1 => ?_)
  · skip
    refine zX_run (n' := 88) (ls' := [some (.inr (.inr (10, 0))), some (.inl r), some (.inl m), some (.inl s), some (.inl o), some (.inl f), some (.inl n), some (.inl c), some (.inl k), x, x2, x3]) (st' := [.inl c]) (σ' := σ) 1 rfl ?_
    exact zX_ret rfl rfl (h1 a1)
  · skip
    refine zX_run (n' := 54) (ls' := [some (.inr (.inr (10, 0))), some (.inl r), some (.inl m), some (.inl s), some (.inl o), some (.inl f), some (.inl n), some (.inl c), some (.inl k), some (.inr (.inl (zWl (f + k)))), none, x3]) (st' := [.inr (.inl 0), .inr (.inl (zWl (f + k)))]) (σ' := σ) 8 rfl ?_
    refine zX_lc rfl (fun a2 => ?_) (fun a2 => ?_) (fun a2 => ?_)
    · skip
      refine zX_run (n' := 60) (ls' := [some (.inr (.inr (10, 0))), some (.inl r), some (.inl m), some (.inl s), some (.inl o), some (.inl f), some (.inl n), some (.inl c), some (.inl k), some (.inr (.inl (zWl (f + k)))), none, x3]) (st' := [.inl s, .inr (.inr (75, 0)), .inr (.inl (zWl (f + k)))]) (σ' := σ) 5 rfl ?_
      refine zX_ald1 (L := 4) rfl (by decide) rfl (o1 a1 a2) ?_
      refine zX_run (n' := 62) (ls' := [some (.inr (.inr (10, 0))), some (.inl r), some (.inl m), some (.inl s), some (.inl o), some (.inl f), some (.inl n), some (.inl c), some (.inl k), some (.inr (.inl (zWl (f + k)))), none, x3]) (st' := [.inr (.inl (σ.1 75 0 (s.toNat))), .inr (.inl (zWl (f + k)))]) (σ' := σ) 1 rfl ?_
      refine zX_lc rfl (fun a3 => ?_) (fun a3 => ?_) (fun a3 => ?_)
      · skip
        refine zX_run (n' := 65) (ls' := [some (.inr (.inr (10, 0))), some (.inl r), some (.inl m), some (.inl s), some (.inl o), some (.inl f), some (.inl n), some (.inl c), some (.inl k), some (.inr (.inl (zWl (f + k)))), none, x3]) (st' := [.inl (-12)]) (σ' := σ) 2 rfl ?_
        exact zX_ret rfl rfl (h2 a1 a2 a3)
      · skip
        refine zX_run (n' := 65) (ls' := [some (.inr (.inr (10, 0))), some (.inl r), some (.inl m), some (.inl s), some (.inl o), some (.inl f), some (.inl n), some (.inl c), some (.inl k), some (.inr (.inl (zWl (f + k)))), none, x3]) (st' := [.inl (-12)]) (σ' := σ) 2 rfl ?_
        exact zX_ret rfl rfl (h3 a1 a2 a3)
      · skip
        refine zX_run (n' := 74) (ls' := [some (.inr (.inr (10, 0))), some (.inl r), some (.inl m), some (.inl s), some (.inl o), some (.inl f), some (.inl n), some (.inl c), some (.inl k), some (.inr (.inl (zWl (f + k)))), none, x3]) (st' := [.inl (zW ((zW (40 * s)) + (zW (zWl (f + k))))), .inr (.inr (76, 0))]) (σ' := σ) 9 rfl ?_
        refine zX_ald1 (L := 160) rfl (by decide) rfl (o2 a1 a2 a3) ?_
        refine zX_run (n' := 82) (ls' := [some (.inr (.inr (10, 0))), some (.inl r), some (.inl m), some (.inl s), some (.inl o), some (.inl f), some (.inl n), some (.inl c), some (.inl k), some (.inr (.inl (zWl (f + k)))), none, some (.inl (σ.1 76 0 ((zW ((zW (40 * s)) + (zW (zWl (f + k))))).toNat)))]) (st' := [.inl (σ.1 76 0 ((zW ((zW (40 * s)) + (zW (zWl (f + k))))).toNat)), .inl (zW (m + k)), .inl r, .inr (.inr (10, 0))]) (σ' := σ) 7 rfl ?_
        exact h4 a1 a2 a3
    · skip
      refine zX_run (n' := 60) (ls' := [some (.inr (.inr (10, 0))), some (.inl r), some (.inl m), some (.inl s), some (.inl o), some (.inl f), some (.inl n), some (.inl c), some (.inl k), some (.inr (.inl (zWl (f + k)))), none, x3]) (st' := [.inl s, .inr (.inr (75, 0)), .inr (.inl (zWl (f + k)))]) (σ' := σ) 5 rfl ?_
      refine zX_ald1 (L := 4) rfl (by decide) rfl (o3 a1 a2) ?_
      refine zX_run (n' := 62) (ls' := [some (.inr (.inr (10, 0))), some (.inl r), some (.inl m), some (.inl s), some (.inl o), some (.inl f), some (.inl n), some (.inl c), some (.inl k), some (.inr (.inl (zWl (f + k)))), none, x3]) (st' := [.inr (.inl (σ.1 75 0 (s.toNat))), .inr (.inl (zWl (f + k)))]) (σ' := σ) 1 rfl ?_
      refine zX_lc rfl (fun a4 => ?_) (fun a4 => ?_) (fun a4 => ?_)
      · skip
        refine zX_run (n' := 65) (ls' := [some (.inr (.inr (10, 0))), some (.inl r), some (.inl m), some (.inl s), some (.inl o), some (.inl f), some (.inl n), some (.inl c), some (.inl k), some (.inr (.inl (zWl (f + k)))), none, x3]) (st' := [.inl (-12)]) (σ' := σ) 2 rfl ?_
        exact zX_ret rfl rfl (h5 a1 a2 a4)
      · skip
        refine zX_run (n' := 65) (ls' := [some (.inr (.inr (10, 0))), some (.inl r), some (.inl m), some (.inl s), some (.inl o), some (.inl f), some (.inl n), some (.inl c), some (.inl k), some (.inr (.inl (zWl (f + k)))), none, x3]) (st' := [.inl (-12)]) (σ' := σ) 2 rfl ?_
        exact zX_ret rfl rfl (h6 a1 a2 a4)
      · skip
        refine zX_run (n' := 74) (ls' := [some (.inr (.inr (10, 0))), some (.inl r), some (.inl m), some (.inl s), some (.inl o), some (.inl f), some (.inl n), some (.inl c), some (.inl k), some (.inr (.inl (zWl (f + k)))), none, x3]) (st' := [.inl (zW ((zW (40 * s)) + (zW (zWl (f + k))))), .inr (.inr (76, 0))]) (σ' := σ) 9 rfl ?_
        refine zX_ald1 (L := 160) rfl (by decide) rfl (o4 a1 a2 a4) ?_
        refine zX_run (n' := 82) (ls' := [some (.inr (.inr (10, 0))), some (.inl r), some (.inl m), some (.inl s), some (.inl o), some (.inl f), some (.inl n), some (.inl c), some (.inl k), some (.inr (.inl (zWl (f + k)))), none, some (.inl (σ.1 76 0 ((zW ((zW (40 * s)) + (zW (zWl (f + k))))).toNat)))]) (st' := [.inl (σ.1 76 0 ((zW ((zW (40 * s)) + (zW (zWl (f + k))))).toNat)), .inl (zW (m + k)), .inl r, .inr (.inr (10, 0))]) (σ' := σ) 7 rfl ?_
        exact h7 a1 a2 a4
    · skip
      refine zX_run (n' := 65) (ls' := [some (.inr (.inr (10, 0))), some (.inl r), some (.inl m), some (.inl s), some (.inl o), some (.inl f), some (.inl n), some (.inl c), some (.inl k), some (.inr (.inl (zWl (f + k)))), none, x3]) (st' := [.inl (-12)]) (σ' := σ) 2 rfl ?_
      exact zX_ret rfl rfl (h8 a1 a2)
-- X10_gauges
theorem zb_187b {d : Nat} {σ : zS} {Q : Option zV → zS → Prop} {r m s o f n c k v w u : Int}
    (h1 : v < 0 → zX (d + 4) 187 43 [some (.inr (.inr (10, 0))), some (.inl r), some (.inl m), some (.inl s), some (.inl o), some (.inl f), some (.inl n), some (.inl c), some (.inl (zW (k + 1))), some (.inr (.inl w)), none, some (.inl u)] [] σ Q)
    (h2 : ¬ v < 0 → zX (d + 4) 187 43 [some (.inr (.inr (10, 0))), some (.inl r), some (.inl m), some (.inl s), some (.inl o), some (.inl f), some (.inl n), some (.inl (zW (c + 1))), some (.inl (zW (k + 1))), some (.inr (.inl w)), none, some (.inl u)] [] σ Q) :
    zX (d + 4) 187 83 [some (.inr (.inr (10, 0))), some (.inl r), some (.inl m), some (.inl s), some (.inl o), some (.inl f), some (.inl n), some (.inl c), some (.inl k), some (.inr (.inl w)), none, some (.inl u)] [.inl v] σ Q := by
  refine zX_i2 rfl (fun a1 => ?_) (fun a1 => ?_)
  · skip
    refine zX_run (n' := 43) (ls' := [some (.inr (.inr (10, 0))), some (.inl r), some (.inl m), some (.inl s), some (.inl o), some (.inl f), some (.inl n), some (.inl c), some (.inl (zW (k + 1))), some (.inr (.inl w)), none, some (.inl u)]) (st' := []) (σ' := σ) 2 rfl ?_
    exact h1 a1
  · skip
    refine zX_run (n' := 43) (ls' := [some (.inr (.inr (10, 0))), some (.inl r), some (.inl m), some (.inl s), some (.inl o), some (.inl f), some (.inl n), some (.inl (zW (c + 1))), some (.inl (zW (k + 1))), some (.inr (.inl w)), none, some (.inl u)]) (st' := []) (σ' := σ) 3 rfl ?_
    exact h2 a1
def mg (S T : zS) : zS := (fun a n j => if a = 37 ∨ a = 0 ∨ a = 8 then S.1 a n j else T.1 a n j, T.2)
def ggUp (σ : zS) (r m q : Nat) (v : Int) : zS := zU (zU (zU (zU (zU (zU (zU σ 37 0 (96 * r + m) v) 0 0 4 1) 8 0 5 ((q + 1 : Nat) : Int)) 52 0 q (r : Int)) 53 0 q (m : Int)) 54 0 q v) 10 0 3 ((q + 1 : Nat) : Int)
theorem mg_up1 {S T : zS} {r m q : Nat} {v : Int} : zU (zU (zU (mg S T) 37 0 (96 * r + m) v) 0 0 4 1) 8 0 5 ((q + 1 : Nat) : Int) = mg (ggUp S r m q v) T := by
  refine Prod.ext (funext fun a => funext fun n => funext fun j => ?_) rfl
  by_cases h : a = 37 ∨ a = 0 ∨ a = 8
  · rcases h with rfl | rfl | rfl <;> rfl
  · show (if a = 8 ∧ j = 5 ∧ n = 0 then ((q + 1 : Nat) : Int) else if a = 0 ∧ j = 4 ∧ n = 0 then 1 else if a = 37 ∧ j = 96 * r + m ∧ n = 0 then v else if a = 37 ∨ a = 0 ∨ a = 8 then S.1 a n j else T.1 a n j) = if a = 37 ∨ a = 0 ∨ a = 8 then (ggUp S r m q v).1 a n j else T.1 a n j
    rw [if_neg (fun x => h (.inr (.inr x.1))), if_neg (fun x => h (.inr (.inl x.1))), if_neg (fun x => h (.inl x.1)), if_neg h, if_neg h]
theorem mg_up2 {S T : zS} {r m q : Nat} {v : Int} : zU (zU (zU (zU (mg S T) 52 0 q (r : Int)) 53 0 q (m : Int)) 54 0 q v) 10 0 3 ((q + 1 : Nat) : Int) = mg S (ggUp T r m q v) := by
  refine Prod.ext (funext fun a => funext fun n => funext fun j => ?_) rfl
  by_cases h : a = 37 ∨ a = 0 ∨ a = 8
  · rcases h with rfl | rfl | rfl <;> rfl
  · show (if a = 10 ∧ j = 3 ∧ n = 0 then ((q + 1 : Nat) : Int) else if a = 54 ∧ j = q ∧ n = 0 then v else if a = 53 ∧ j = q ∧ n = 0 then (m : Int) else if a = 52 ∧ j = q ∧ n = 0 then (r : Int) else if a = 37 ∨ a = 0 ∨ a = 8 then S.1 a n j else T.1 a n j) = if a = 37 ∨ a = 0 ∨ a = 8 then S.1 a n j else if a = 10 ∧ j = 3 ∧ n = 0 then ((q + 1 : Nat) : Int) else if a = 54 ∧ j = q ∧ n = 0 then v else if a = 53 ∧ j = q ∧ n = 0 then (m : Int) else if a = 52 ∧ j = q ∧ n = 0 then (r : Int) else if a = 8 ∧ j = 5 ∧ n = 0 then ((q + 1 : Nat) : Int) else if a = 0 ∧ j = 4 ∧ n = 0 then 1 else if a = 37 ∧ j = 96 * r + m ∧ n = 0 then v else T.1 a n j
    rw [if_neg h, if_neg h, if_neg (c := a = 8 ∧ j = 5 ∧ n = 0) (fun x => h (.inr (.inr x.1))), if_neg (c := a = 0 ∧ j = 4 ∧ n = 0) (fun x => h (.inr (.inl x.1))), if_neg (c := a = 37 ∧ j = 96 * r + m ∧ n = 0) (fun x => h (.inl x.1))]
theorem mg_id {S T : zS} (h2 : S.2 = T.2) (h : ∀ a n j, ¬ (a = 37 ∨ a = 0 ∨ a = 8) → T.1 a n j = S.1 a n j) : mg S T = S := by
  refine Prod.ext (funext fun a => funext fun n => funext fun j => ?_) h2.symm
  show (if a = 37 ∨ a = 0 ∨ a = 8 then S.1 a n j else T.1 a n j) = S.1 a n j
  by_cases e : a = 37 ∨ a = 0 ∨ a = 8
  · rw [if_pos e]
  · rw [if_neg e]; exact h a n j e
theorem mg_self {S : zS} : mg S S = S := mg_id rfl (fun _ _ _ _ => rfl)
theorem yr_gauge {σ : zS} (R : yRel σ) {r m q : Nat} {n : Int} (hq : σ.1 10 0 3 = (q : Int)) (hr : r < 7) (hm : m < 96) (c : 0 ≤ n ∧ n ≤ 99999) (e : q < 40) : yRel (ggUp σ r m q n) := by
  obtain ⟨S, G, L, H, C, Tx, Ru, K, Tp, Sh, B⟩ := R
  obtain ⟨G1, G2, G3⟩ := G
  refine ⟨S, ⟨⟨rfl, by show (0 : Int) ≤ ((q + 1 : Nat) : Int); omega, by show ((q + 1 : Nat) : Int) ≤ 40; omega⟩, fun g hg => ?_, fun r' m' hr' hm' => ?_⟩, L, H, C, Tx, Ru, K, Tp, Sh, rBase_1 rfl⟩
  · show ((0 ≤ (if 52 = 52 ∧ g = q ∧ 0 = 0 then (r : Int) else σ.1 52 0 g) ∧ (if 52 = 52 ∧ g = q ∧ 0 = 0 then (r : Int) else σ.1 52 0 g) < 7) ∧ (0 ≤ (if 53 = 53 ∧ g = q ∧ 0 = 0 then (m : Int) else σ.1 53 0 g) ∧ (if 53 = 53 ∧ g = q ∧ 0 = 0 then (m : Int) else σ.1 53 0 g) < 96)) ∧ 0 ≤ (if 54 = 54 ∧ g = q ∧ 0 = 0 then n else σ.1 54 0 g) ∧ (if 54 = 54 ∧ g = q ∧ 0 = 0 then n else σ.1 54 0 g) ≤ 99999
    have hg : (g : Int) < ((q + 1 : Nat) : Int) := hg
    rw [ifk, ifk, ifk]
    by_cases e : g = q
    · rw [if_pos e, if_pos e, if_pos e]; exact ⟨⟨by omega, by omega⟩, c⟩
    · rw [if_neg e, if_neg e, if_neg e]; exact G2 g (by omega)
  · show (if 37 = 37 ∧ 96 * r' + m' = 96 * r + m ∧ 0 = 0 then n else σ.1 37 0 (96 * r' + m')) = mGl (fun j => if 52 = 52 ∧ j = q ∧ 0 = 0 then (r : Int) else σ.1 52 0 j) (fun j => if 53 = 53 ∧ j = q ∧ 0 = 0 then (m : Int) else σ.1 53 0 j) (fun j => if 54 = 54 ∧ j = q ∧ 0 = 0 then n else σ.1 54 0 j) r' m' (q + 1)
    have F := G3 r' m' hr' hm'
    unfold mG at F
    rw [hq] at F
    have F : σ.1 37 0 (96 * r' + m') = mGl (σ.1 52 0) (σ.1 53 0) (σ.1 54 0) r' m' q := F
    rw [mGl, mGl_congr (a' := σ.1 52 0) (b' := σ.1 53 0) (c' := σ.1 54 0) (fun g hg => ⟨if_neg (by omega), if_neg (by omega), if_neg (by omega)⟩)]
    rw [ifk, ifk, ifk, ifk, if_pos (show q = q from rfl), if_pos (show q = q from rfl), if_pos (show q = q from rfl)]
    by_cases e : 96 * r' + m' = 96 * r + m
    · have e2 : r' = r ∧ m' = m := by omega
      rw [if_pos e, if_pos (by omega)]
    · rw [if_neg e, if_neg (by omega)]; exact F
def ggSt (r : Nat) (S : zS) (m : Nat) (v : Int) : zS := if m < 96 ∧ (0 ≤ v ∧ v ≤ 99999) ∧ S.1 10 0 3 < 40 then ggUp S r m (S.1 10 0 3).toNat v else S
def ggS (r m : Nat) (v : Nat → Int) (σ : zS) : Nat → zS
  | 0 => σ
  | k + 1 => ggSt r (ggS r m v σ k) (m + k) (v k)
theorem yr_ggSt {S : zS} (R : yRel S) {r m : Nat} {v : Int} (hr : r < 7) : yRel (ggSt r S m v) := by
  unfold ggSt
  by_cases h : m < 96 ∧ (0 ≤ v ∧ v ≤ 99999) ∧ S.1 10 0 3 < 40
  · rw [if_pos h]
    have G1 := R.2.1.1
    exact yr_gauge R (by omega) hr h.1 h.2.1 (by omega)
  · rw [if_neg h]; exact R
theorem yr_gS {σ : zS} (R : yRel σ) {r m : Nat} {v : Nat → Int} (hr : r < 7) : ∀ k, yRel (ggS r m v σ k)
  | 0 => R
  | k + 1 => yr_ggSt (yr_gS R hr k) hr
theorem gUp_fr {S : zS} {r m q : Nat} {v : Int} {a : Nat} (h : a = 75 ∨ a = 76) : (ggUp S r m q v).1 a = S.1 a := by rcases h with rfl | rfl <;> rfl
theorem gS_fr {σ : zS} {r m : Nat} {v : Nat → Int} {a : Nat} (h : a = 75 ∨ a = 76) : ∀ k, (ggS r m v σ k).1 a = σ.1 a
  | 0 => rfl
  | k + 1 => by
    show (ggSt r (ggS r m v σ k) (m + k) (v k)).1 a = σ.1 a
    unfold ggSt
    split
    · exact (gUp_fr h).trans (gS_fr h k)
    · exact gS_fr h k
theorem zg_c {d : Nat} {Q : Option zV → zS → Prop} {S T : zS} (R : yRel S) {r m k a : Nat} {v M s o f n c : Int} (hr : r < 7) (hm : m < 200) (hk : k < 1000) (hc : 0 ≤ c ∧ c ≤ 1000)
    (h : zX (d + 14) 102 46 [some (.inr (.inr (9, 0))), some (.inl (r : Int)), some (.inl M), some (.inl s), some (.inl o), some (.inl f), some (.inl n), some (.inr (.inr (6, a))), some (.inl (c + ((ggSt r S m v).1 10 0 3 - S.1 10 0 3))), some (.inl ((k + 1 : Nat) : Int))] [] (mg (ggSt r S m v) T) Q) :
    zX (d + 14) 102 68 [some (.inr (.inr (9, 0))), some (.inl (r : Int)), some (.inl M), some (.inl s), some (.inl o), some (.inl f), some (.inl n), some (.inr (.inr (6, a))), some (.inl c), some (.inl (k : Int))] [.inl v, .inl (m : Int), .inl (r : Int), .inr (.inr (9, 0))] (mg S T) Q := by
  have G1 := R.2.1.1
  obtain ⟨q, hq⟩ := Int.eq_ofNat_of_zero_le G1.2.1
  have hq2 : S.1 8 0 5 = (q : Int) := G1.1.trans hq
  have q40 : q ≤ 40 := by omega
  clear G1 R
  have e0 : (mg S T).1 8 0 5 = (q : Int) := hq2
  have no : ¬ (m < 96 ∧ (0 ≤ v ∧ v ≤ 99999) ∧ S.1 10 0 3 < 40) → ∀ w : Int, w < 0 → zX (d + 14) 102 69 [some (.inr (.inr (9, 0))), some (.inl (r : Int)), some (.inl M), some (.inl s), some (.inl o), some (.inl f), some (.inl n), some (.inr (.inr (6, a))), some (.inl c), some (.inl (k : Int))] [.inl w] (mg S T) Q := fun nb w hw => by
    unfold ggSt at h
    rw [if_neg nb, Int.sub_self, Int.add_zero] at h
    refine zb_102b (fun _ => ?_) (fun x => absurd hw x)
    rw [zWs (by omega)]; exact h
  refine zX_call rfl rfl ?_
  refine z2_71 (d := d + 10) (fun nb => ?_) (fun x y z w => ?_) (fun x y z w => ?_)
  · exact no (fun x => nb ⟨by omega, by omega, x.2.1⟩) _ (by decide)
  · rw [e0] at w
    have e1 : zW ((zW ((r : Int) * 96)) + (m : Int)) = ((96 * r + m : Nat) : Int) := by rw [zIx1 (by omega) (by omega)]; omega
    have p : m < 96 ∧ (0 ≤ v ∧ v ≤ 99999) ∧ S.1 10 0 3 < 40 := ⟨by omega, z, by omega⟩
    unfold ggSt at h
    rw [if_pos p, hq, Int.toNat_natCast] at h
    have e2 : (ggUp S r m q v).1 10 0 3 = ((q + 1 : Nat) : Int) := rfl
    rw [e2, show c + (((q + 1 : Nat) : Int) - (q : Int)) = c + 1 by omega] at h
    rw [e0, e1, Int.toNat_natCast, zWs (by omega), mg_up1]
    refine zb_102b (fun x => absurd x (by omega)) (fun _ => ?_)
    rw [zWs (by omega), show zW (c + 1) = c + 1 by unfold zW; omega]; exact h
  · rw [e0] at w
    exact no (fun p => w (by omega)) _ (by decide)
theorem zg_m {d : Nat} {Q : Option zV → zS → Prop} {S T : zS} (R : yRel T) {r m k : Nat} {v M s o f n c w u : Int} (hr : r < 7) (hm : m < 200) (hk : k < 1000) (hc : 0 ≤ c ∧ c ≤ 1000)
    (h : zX (d + 4) 187 43 [some (.inr (.inr (10, 0))), some (.inl (r : Int)), some (.inl M), some (.inl s), some (.inl o), some (.inl f), some (.inl n), some (.inl (c + ((ggSt r T m v).1 10 0 3 - T.1 10 0 3))), some (.inl ((k + 1 : Nat) : Int)), some (.inr (.inl w)), none, some (.inl u)] [] (mg S (ggSt r T m v)) Q) :
    zX (d + 4) 187 82 [some (.inr (.inr (10, 0))), some (.inl (r : Int)), some (.inl M), some (.inl s), some (.inl o), some (.inl f), some (.inl n), some (.inl c), some (.inl (k : Int)), some (.inr (.inl w)), none, some (.inl u)] [.inl v, .inl (m : Int), .inl (r : Int), .inr (.inr (10, 0))] (mg S T) Q := by
  have G1 := R.2.1.1
  obtain ⟨q, hq⟩ := Int.eq_ofNat_of_zero_le G1.2.1
  have q40 : q ≤ 40 := by omega
  clear G1 R
  have e0 : (mg S T).1 10 0 3 = (q : Int) := hq
  have no : ¬ (m < 96 ∧ (0 ≤ v ∧ v ≤ 99999) ∧ T.1 10 0 3 < 40) → ∀ z : Int, z < 0 → zX (d + 4) 187 83 [some (.inr (.inr (10, 0))), some (.inl (r : Int)), some (.inl M), some (.inl s), some (.inl o), some (.inl f), some (.inl n), some (.inl c), some (.inl (k : Int)), some (.inr (.inl w)), none, some (.inl u)] [.inl z] (mg S T) Q := fun nb z hz => by
    unfold ggSt at h
    rw [if_neg nb, Int.sub_self, Int.add_zero] at h
    refine zb_187b (fun _ => ?_) (fun x => absurd hz x)
    rw [zWs (by omega)]; exact h
  refine zX_call rfl rfl ?_
  refine z2_125 (d := d) (fun _ _ _ _ f => ?_) (fun nb => ?_) (fun x y z z2 w => ?_) (fun x y z z2 w => ?_)
  · rw [e0] at f ⊢; omega
  · exact no (fun x => nb ⟨by omega, by omega, x.2.1⟩) _ (by decide)
  · rw [e0] at w
    have p : m < 96 ∧ (0 ≤ v ∧ v ≤ 99999) ∧ T.1 10 0 3 < 40 := ⟨by omega, by omega, by omega⟩
    unfold ggSt at h
    rw [if_pos p, hq, Int.toNat_natCast] at h
    have e2 : (ggUp T r m q v).1 10 0 3 = ((q + 1 : Nat) : Int) := rfl
    rw [e2, show c + (((q + 1 : Nat) : Int) - (q : Int)) = c + 1 by omega] at h
    rw [e0, Int.toNat_natCast, zWs (by omega), mg_up2]
    refine zb_187b (fun x => absurd x (by omega)) (fun _ => ?_)
    rw [zWs (by omega), show zW (c + 1) = c + 1 by unfold zW; omega]; exact h
  · rw [e0] at w
    exact no (fun p => by omega) _ (by decide)
theorem z2_102 {d : Nat} {σ : zS} {Q : Option zV → zS → Prop} {r m s o f n : Int}
    (hb : ¬ ((0 ≤ r ∧ r ≤ 6) ∧ (0 ≤ m ∧ m ≤ 95) ∧ (0 ≤ s ∧ s ≤ 3) ∧ (0 ≤ o ∧ o ≤ 2) ∧ 0 ≤ n ∧ n ≤ 24) → Q (some (.inl (-2))) σ)
    (h1 : ((0 ≤ r ∧ r ≤ 6) ∧ (0 ≤ m ∧ m ≤ 95) ∧ (0 ≤ s ∧ s ≤ 3) ∧ (0 ≤ o ∧ o ≤ 2) ∧ 0 ≤ n ∧ n ≤ 24) → σ.1 6 (4 * 0 + s.toNat) 1 = -1 → Q (some (.inl (-11))) σ)
    (h2 : ((0 ≤ r ∧ r ≤ 6) ∧ (0 ≤ m ∧ m ≤ 95) ∧ (0 ≤ s ∧ s ≤ 3) ∧ (0 ≤ o ∧ o ≤ 2) ∧ 0 ≤ n ∧ n ≤ 24) → ¬ σ.1 6 (4 * 0 + s.toNat) 1 = -1 → ¬ σ.1 6 (4 * 0 + s.toNat) 1 = o → Q (some (.inl (-13))) σ)
    (h0 : ((0 ≤ r ∧ r ≤ 6) ∧ (0 ≤ m ∧ m ≤ 95) ∧ (0 ≤ s ∧ s ≤ 3) ∧ (0 ≤ o ∧ o ≤ 2) ∧ 0 ≤ n ∧ n ≤ 24) → ¬ σ.1 6 (4 * 0 + s.toNat) 1 = -1 → σ.1 6 (4 * 0 + s.toNat) 1 = o → zX (d + 14) 102 46 [some (.inr (.inr (9, 0))), some (.inl r), some (.inl m), some (.inl s), some (.inl o), some (.inl f), some (.inl n), some (.inr (.inr (6, 4 * 0 + s.toNat))), some (.inl 0), some (.inl 0)] [] σ Q) :
    zM (d + 14) 102 [.inr (.inr (9, 0)), .inl r, .inl m, .inl s, .inl o, .inl f, .inl n] σ Q := by
  exact zb_102 (fun _ _ _ _ _ => by omega) (fun a0 a1 a2 a3 a4 a5 => h1 (by omega) (by assumption)) (fun a0 a1 a2 a3 a4 a5 a6 => h0 (by omega) (by assumption) (by assumption)) (fun a0 a1 a2 a3 a4 a5 a6 => h2 (by omega) (by assumption) (by assumption)) (fun a0 a1 a2 a3 a4 => hb (by omega)) (fun a0 a1 a2 a3 => hb (by omega)) (fun a0 a1 a2 => hb (by omega)) (fun a0 a1 => hb (by omega)) (fun a0 => hb (by omega))
theorem z2_187 {d : Nat} {σ : zS} {Q : Option zV → zS → Prop} {r m s o f n : Int}
    (hb : ¬ ((0 ≤ r ∧ r ≤ 6) ∧ (0 ≤ m ∧ m ≤ 95) ∧ (0 ≤ s ∧ s ≤ 3) ∧ (0 ≤ o ∧ o ≤ 2) ∧ 0 ≤ n ∧ n ≤ 24) → Q (some (.inl (-2))) σ)
    (h1 : ((0 ≤ r ∧ r ≤ 6) ∧ (0 ≤ m ∧ m ≤ 95) ∧ (0 ≤ s ∧ s ≤ 3) ∧ (0 ≤ o ∧ o ≤ 2) ∧ 0 ≤ n ∧ n ≤ 24) → σ.1 74 0 s.toNat = -1 → Q (some (.inl (-11))) σ)
    (h2 : ((0 ≤ r ∧ r ≤ 6) ∧ (0 ≤ m ∧ m ≤ 95) ∧ (0 ≤ s ∧ s ≤ 3) ∧ (0 ≤ o ∧ o ≤ 2) ∧ 0 ≤ n ∧ n ≤ 24) → ¬ σ.1 74 0 s.toNat = -1 → ¬ σ.1 74 0 s.toNat = o → Q (some (.inl (-13))) σ)
    (h0 : ((0 ≤ r ∧ r ≤ 6) ∧ (0 ≤ m ∧ m ≤ 95) ∧ (0 ≤ s ∧ s ≤ 3) ∧ (0 ≤ o ∧ o ≤ 2) ∧ 0 ≤ n ∧ n ≤ 24) → ¬ σ.1 74 0 s.toNat = -1 → σ.1 74 0 s.toNat = o → zX (d + 4) 187 43 [some (.inr (.inr (10, 0))), some (.inl r), some (.inl m), some (.inl s), some (.inl o), some (.inl f), some (.inl n), some (.inl 0), some (.inl 0), none, none, none] [] σ Q) :
    zM (d + 4) 187 [.inr (.inr (10, 0)), .inl r, .inl m, .inl s, .inl o, .inl f, .inl n] σ Q := by
  exact zb_187 (fun _ _ _ _ _ _ _ _ => by omega) (fun a0 a1 a2 => hb (by omega)) (fun a0 a1 a2 a3 => hb (by omega)) (fun a0 a1 a2 a3 a4 => hb (by omega)) (fun a0 a1 a2 a3 a4 a5 => hb (by omega)) (fun a0 a1 a2 a3 a4 a5 a6 => hb (by omega)) (fun a0 a1 a2 a3 a4 a5 a6 a7 a8 a9 => h0 (by omega) (by assumption) (by assumption)) (fun a0 a1 a2 a3 a4 a5 a6 a7 a8 a9 => h2 (by omega) (by assumption) (by assumption)) (fun a0 a1 a2 a3 a4 a5 a6 a7 a8 => h1 (by omega) (by assumption)) (fun a0 a1 a2 a3 a4 a5 a6 a7 => hb (by omega)) (fun a0 a1 => hb (by omega)) (fun a0 => hb (by omega))
def ggV (σ : zS) (s f k : Nat) : Int := σ.1 76 0 (40 * s + f + k)
theorem gS_q {σ : zS} (R : yRel σ) {r m : Nat} {v : Nat → Int} : ∀ k, σ.1 10 0 3 ≤ (ggS r m v σ k).1 10 0 3 ∧ (ggS r m v σ k).1 10 0 3 ≤ 40
  | 0 => ⟨Int.le_refl _, by have := R.2.1.1; show σ.1 10 0 3 ≤ 40; omega⟩
  | k + 1 => by
    have ih := gS_q R (r := r) (m := m) (v := v) k
    have p0 := R.2.1.1
    show σ.1 10 0 3 ≤ (ggSt r (ggS r m v σ k) (m + k) (v k)).1 10 0 3 ∧ (ggSt r (ggS r m v σ k) (m + k) (v k)).1 10 0 3 ≤ 40
    unfold ggSt
    by_cases h : m + k < 96 ∧ (0 ≤ v k ∧ v k ≤ 99999) ∧ (ggS r m v σ k).1 10 0 3 < 40
    · rw [if_pos h]
      have e : (ggUp (ggS r m v σ k) r (m + k) ((ggS r m v σ k).1 10 0 3).toNat (v k)).1 10 0 3 = ((((ggS r m v σ k).1 10 0 3).toNat + 1 : Nat) : Int) := rfl
      rw [e]
      have h2 := h.2.2
      clear h e
      generalize (ggS r m v σ k).1 10 0 3 = x at *
      omega
    · rw [if_neg h]; exact ih
theorem zWna {a b : Nat} (h : a + b < 2147483648) : zW ((a : Int) + (b : Int)) = ((a + b : Nat) : Int) := by unfold zW; omega
theorem zWlna {a b : Nat} (h : a + b < 2147483648) : zWl ((a : Int) + (b : Int)) = ((a + b : Nat) : Int) := by unfold zWl; omega
theorem zW40 {s x : Nat} (hs : s < 4) (hx : x < 40) : zW (zW (40 * (s : Int)) + zW (x : Int)) = ((40 * s + x : Nat) : Int) := by unfold zW; omega
theorem gS_c {σ : zS} (R : yRel σ) {r m : Nat} {v : Nat → Int} (k : Nat) : 0 ≤ (ggS r m v σ k).1 10 0 3 - σ.1 10 0 3 ∧ (ggS r m v σ k).1 10 0 3 - σ.1 10 0 3 ≤ 1000 := by
  have qk := gS_q R (r := r) (m := m) (v := v) k
  have q0 := R.2.1.1.2.1
  generalize (ggS r m v σ k).1 10 0 3 = x at *
  generalize σ.1 10 0 3 = y at *
  clear R
  omega
theorem gS_t {σ : zS} {r m : Nat} {v : Nat → Int} {k : Nat} : ((ggS r m v σ k).1 10 0 3 - σ.1 10 0 3 + ((ggSt r (ggS r m v σ k) (m + k) (v k)).1 10 0 3 - (ggS r m v σ k).1 10 0 3)) = (ggS r m v σ (k + 1)).1 10 0 3 - σ.1 10 0 3 := by
  show _ = (ggSt r (ggS r m v σ k) (m + k) (v k)).1 10 0 3 - σ.1 10 0 3
  generalize (ggS r m v σ k).1 10 0 3 = x
  generalize (ggSt r (ggS r m v σ k) (m + k) (v k)).1 10 0 3 = y
  generalize σ.1 10 0 3 = z
  omega
theorem zg_cl {d : Nat} {Q : Option zV → zS → Prop} {σ : zS} (R : yRel σ) {r m s f n N : Nat} {o : Int} (hr : r < 7) (hm : m < 96) (hs : s < 4) (hn : n ≤ 24) (hN : N ≤ n) (hf : N = 0 ∨ (f + N : Int) ≤ σ.1 75 0 s)
    (h : zX (d + 14) 102 46 [some (.inr (.inr (9, 0))), some (.inl (r : Int)), some (.inl (m : Int)), some (.inl (s : Int)), some (.inl o), some (.inl (f : Int)), some (.inl (n : Int)), some (.inr (.inr (6, 4 * 0 + s))), some (.inl ((ggS r m (ggV σ s f) σ N).1 10 0 3 - σ.1 10 0 3)), some (.inl (N : Int))] [] (mg (ggS r m (ggV σ s f) σ N) σ) Q) :
    zX (d + 14) 102 46 [some (.inr (.inr (9, 0))), some (.inl (r : Int)), some (.inl (m : Int)), some (.inl (s : Int)), some (.inl o), some (.inl (f : Int)), some (.inl (n : Int)), some (.inr (.inr (6, 4 * 0 + s))), some (.inl 0), some (.inl 0)] [] σ Q := by
  obtain ⟨s1, s2, s3, s4, s5⟩ := R.2.2.2.2.2.2.2.2.2.1 s hs
  have L := zLoop (P := fun k => zX (d + 14) 102 46 [some (.inr (.inr (9, 0))), some (.inl (r : Int)), some (.inl (m : Int)), some (.inl (s : Int)), some (.inl o), some (.inl (f : Int)), some (.inl (n : Int)), some (.inr (.inr (6, 4 * 0 + s))), some (.inl ((ggS r m (ggV σ s f) σ k).1 10 0 3 - σ.1 10 0 3)), some (.inl (k : Int))] [] (mg (ggS r m (ggV σ s f) σ k) σ) Q) (k := 0) (N := N) (Nat.zero_le _) h (fun k _ hk ih => ?_)
  · have L : zX (d + 14) 102 46 [some (.inr (.inr (9, 0))), some (.inl (r : Int)), some (.inl (m : Int)), some (.inl (s : Int)), some (.inl o), some (.inl (f : Int)), some (.inl (n : Int)), some (.inr (.inr (6, 4 * 0 + s))), some (.inl (σ.1 10 0 3 - σ.1 10 0 3)), some (.inl ((0 : Nat) : Int))] [] (mg σ σ) Q := L
    rw [mg_self, Int.sub_self] at L
    exact L
  · have fN : (f + N : Int) ≤ σ.1 75 0 s := by omega
    have nk : ¬ (n : Int) ≤ (k : Int) := by omega
    have i1 : ¬ σ.1 75 0 s ≤ ((f + k : Nat) : Int) := by clear h ih; omega
    have i4 : f + k < 40 := by clear h ih; omega
    have i2 : (0 : Int) ≤ ((f + k : Nat) : Int) ∧ ((f + k : Nat) : Int) < 40 := ⟨Int.natCast_nonneg _, by clear h ih i1; omega⟩
    have i5 : ¬ ((f + k : Nat) : Int) < 0 := by omega
    have i6 : m + k < 200 := by omega
    have i7 : k < 1000 := by omega
    have e6 : (mg (ggS r m (ggV σ s f) σ k) σ).1 6 (4 * 0 + s) 2 = σ.1 75 0 s := s3
    have z1 : zW ((f : Int) + (k : Int)) = ((f + k : Nat) : Int) := zWna (Nat.lt_trans i4 (by decide))
    have z2 : zW ((m : Int) + (k : Int)) = ((m + k : Nat) : Int) := zWna (Nat.lt_of_lt_of_le (Nat.add_lt_add_of_lt_of_le hm (Nat.le_trans (Nat.le_of_lt hk) (Nat.le_trans hN hn))) (by decide))
    have cc := gS_c R (r := r) (m := m) (v := ggV σ s f) k
    have Rk := yr_gS R (m := m) (v := ggV σ s f) hr k
    refine zb_102a (fun _ _ _ => by rw [z1]; exact i2) (fun x => absurd x nk) (fun _ x => absurd x (by rw [z1]; exact i5)) (fun _ _ x => absurd x (by rw [z1, e6]; exact i1)) (fun _ _ _ => ?_)
    rw [z1, z2, Int.toNat_natCast]
    rw [show (mg (ggS r m (ggV σ s f) σ k) σ).1 32 (4 * 0 + s) (f + k) = ggV σ s f k from (s5 (f + k) i4).trans (by unfold ggV; rw [Nat.add_assoc])]
    refine zg_c (d := d) Rk (k := k) hr i6 i7 cc ?_
    rw [gS_t]
    exact ih
theorem zg_ml {d : Nat} {Q : Option zV → zS → Prop} {σ S : zS} (R : yRel σ) {r m s f n N : Nat} {o : Int} (hr : r < 7) (hm : m < 96) (hs : s < 4) (hn : n ≤ 24) (hN : N ≤ n) (hf : N = 0 ∨ (f + N : Int) ≤ σ.1 75 0 s)
    (h : ∀ x x2 x3 : Option zV, zX (d + 4) 187 43 [some (.inr (.inr (10, 0))), some (.inl (r : Int)), some (.inl (m : Int)), some (.inl (s : Int)), some (.inl o), some (.inl (f : Int)), some (.inl (n : Int)), some (.inl ((ggS r m (ggV σ s f) σ N).1 10 0 3 - σ.1 10 0 3)), some (.inl (N : Int)), x, x2, x3] [] (mg S (ggS r m (ggV σ s f) σ N)) Q) :
    zX (d + 4) 187 43 [some (.inr (.inr (10, 0))), some (.inl (r : Int)), some (.inl (m : Int)), some (.inl (s : Int)), some (.inl o), some (.inl (f : Int)), some (.inl (n : Int)), some (.inl 0), some (.inl 0), none, none, none] [] (mg S σ) Q := by
  obtain ⟨s1, s2, s3, s4, s5⟩ := R.2.2.2.2.2.2.2.2.2.1 s hs
  have L := zLoop (P := fun k => ∀ x x2 x3 : Option zV, zX (d + 4) 187 43 [some (.inr (.inr (10, 0))), some (.inl (r : Int)), some (.inl (m : Int)), some (.inl (s : Int)), some (.inl o), some (.inl (f : Int)), some (.inl (n : Int)), some (.inl ((ggS r m (ggV σ s f) σ k).1 10 0 3 - σ.1 10 0 3)), some (.inl (k : Int)), x, x2, x3] [] (mg S (ggS r m (ggV σ s f) σ k)) Q) (k := 0) (N := N) (Nat.zero_le _) h (fun k _ hk ih x x2 x3 => ?_)
  · have L : zX (d + 4) 187 43 [some (.inr (.inr (10, 0))), some (.inl (r : Int)), some (.inl (m : Int)), some (.inl (s : Int)), some (.inl o), some (.inl (f : Int)), some (.inl (n : Int)), some (.inl (σ.1 10 0 3 - σ.1 10 0 3)), some (.inl ((0 : Nat) : Int)), none, none, none] [] (mg S σ) Q := L none none none
    rw [Int.sub_self] at L
    exact L
  · have fN : (f + N : Int) ≤ σ.1 75 0 s := by omega
    have nk : ¬ (n : Int) ≤ (k : Int) := by omega
    have i3 : f + k < 40 := by clear h ih; omega
    have lt : ((f + k : Nat) : Int) < σ.1 75 0 s := by clear h ih; omega
    have i6 : m + k < 200 := by omega
    have i7 : k < 1000 := by omega
    have i4 : (0 : Int) ≤ ((40 * s + f + k : Nat) : Int) ∧ ((40 * s + f + k : Nat) : Int) < 160 := by omega
    have i5 : ¬ ((f + k : Nat) : Int) < 0 := by omega
    have n1 : ¬ σ.1 75 0 s < ((f + k : Nat) : Int) := Int.not_lt.mpr (Int.le_of_lt lt)
    have n2 : ¬ ((f + k : Nat) : Int) = σ.1 75 0 s := Int.ne_of_lt lt
    have hs4 : (0 : Int) ≤ (s : Int) ∧ (s : Int) < 4 := by omega
    have e7 : (mg S (ggS r m (ggV σ s f) σ k)).1 75 0 s = σ.1 75 0 s := congrFun (congrFun (gS_fr (.inl rfl) k) 0) s
    have e8 : (mg S (ggS r m (ggV σ s f) σ k)).1 76 0 (40 * s + f + k) = ggV σ s f k := congrFun (congrFun (gS_fr (.inr rfl) k) 0) _
    have z1 : zWl ((f : Int) + (k : Int)) = ((f + k : Nat) : Int) := zWlna (Nat.lt_trans i3 (by decide))
    have z2 : zW ((m : Int) + (k : Int)) = ((m + k : Nat) : Int) := zWna (Nat.lt_of_lt_of_le (Nat.add_lt_add_of_lt_of_le hm (Nat.le_trans (Nat.le_of_lt hk) (Nat.le_trans hN hn))) (by decide))
    have z3 : zW (zW (40 * (s : Int)) + zW ((f + k : Nat) : Int)) = ((40 * s + f + k : Nat) : Int) := by rw [zW40 hs i3, Nat.add_assoc]
    have cc := gS_c R (r := r) (m := m) (v := ggV σ s f) k
    have Rk := yr_gS R (m := m) (v := ggV σ s f) hr k
    have key : zX (d + 4) 187 82 [some (.inr (.inr (10, 0))), some (.inl (r : Int)), some (.inl (m : Int)), some (.inl (s : Int)), some (.inl o), some (.inl (f : Int)), some (.inl (n : Int)), some (.inl ((ggS r m (ggV σ s f) σ k).1 10 0 3 - σ.1 10 0 3)), some (.inl (k : Int)), some (.inr (.inl ((f + k : Nat) : Int))), none, some (.inl (ggV σ s f k))] [.inl (ggV σ s f k), .inl ((m + k : Nat) : Int), .inl (r : Int), .inr (.inr (10, 0))] (mg S (ggS r m (ggV σ s f) σ k)) Q := by
      refine zg_m (d := d) Rk (k := k) hr i6 i7 cc ?_
      rw [gS_t]
      exact ih _ _ _
    refine zb_187a (fun _ _ => hs4) (fun _ _ _ => by rw [z1, z3]; exact i4) (fun _ _ => hs4) (fun _ _ _ => by rw [z1, z3]; exact i4) (fun x => absurd x nk)
      (fun _ _ x => absurd (show _ from x) (by rw [z1, Int.toNat_natCast, e7]; exact n1)) (fun _ _ x => absurd (show _ from x) (by rw [z1, Int.toNat_natCast, e7]; exact n2)) (fun _ _ _ => ?_)
      (fun _ _ x => absurd (show _ from x) (by rw [z1, Int.toNat_natCast, e7]; exact n1)) (fun _ _ x => absurd (show _ from x) (by rw [z1, Int.toNat_natCast, e7]; exact n2)) (fun _ _ _ => ?_) (fun _ x => absurd x (by rw [z1]; exact i5))
    · rw [z1, z2, z3, Int.toNat_natCast, e8]; exact key
    · rw [z1, z2, z3, Int.toNat_natCast, e8]; exact key
theorem zW_ge {f N : Nat} {x : Int} (h : x ≤ (f : Int) + (N : Int)) (h2 : f < 2147483648) (h3 : N ≤ 24) (q : ¬ zW ((f : Int) + (N : Int)) < 0) : x ≤ zW ((f : Int) + (N : Int)) := by
  unfold zW at q ⊢; omega
theorem zWl_f {f N : Nat} (h2 : f < 2147483648) (h3 : N ≤ 24) : zWl ((f : Int) + (N : Int)) = (f : Int) + (N : Int) := by unfold zWl; omega
theorem zf0 {f : Int} (hf : -2147483648 ≤ f ∧ f ≤ 2147483647) : zW (f + 0) = f ∧ zWl (f + 0) = f := by unfold zW zWl; omega
theorem yp_gauges {d : Nat} {σ : zS} (R : yRel σ) (r m s o f n : Int) (hf : -2147483648 ≤ f ∧ f ≤ 2147483647) : yPi d 102 187 [.inl r, .inl m, .inl s, .inl o, .inl f, .inl n] σ := by
  have E : ∀ s : Int, 0 ≤ s ∧ s ≤ 3 → σ.1 6 (4 * 0 + s.toNat) 1 = σ.1 74 0 s.toNat ∧ σ.1 6 (4 * 0 + s.toNat) 2 = σ.1 75 0 s.toNat ∧ 0 ≤ σ.1 75 0 s.toNat ∧ σ.1 75 0 s.toNat ≤ 40 := fun s q => by
    obtain ⟨h1, h2, h3, h4, h5⟩ := R.2.2.2.2.2.2.2.2.2.1 s.toNat (by omega)
    exact ⟨h1, h3, h4⟩
  refine z2_102 (d := d + 46) (fun nW => ?_) (fun W a => ?_) (fun W a b => ?_) (fun W a b => ?_)
  · exact z2_187 (d := d + 56) (fun _ => ⟨⟨_, rfl, rfl⟩, R⟩) (fun W _ => absurd W nW) (fun W _ _ => absurd W nW) (fun W _ _ => absurd W nW)
  · rw [(E s W.2.2.1).1] at a
    exact z2_187 (d := d + 56) (fun nW => absurd W nW) (fun _ _ => ⟨⟨_, rfl, rfl⟩, R⟩) (fun _ x _ => absurd a x) (fun _ x _ => absurd a x)
  · rw [(E s W.2.2.1).1] at a b
    exact z2_187 (d := d + 56) (fun nW => absurd W nW) (fun _ x => absurd x a) (fun _ _ _ => ⟨⟨_, rfl, rfl⟩, R⟩) (fun _ _ x => absurd x b)
  · rw [(E s W.2.2.1).1] at a b
    obtain ⟨e1, e2, e3, e4⟩ := E s W.2.2.1
    clear E
    obtain ⟨r, rfl⟩ := Int.eq_ofNat_of_zero_le W.1.1
    obtain ⟨m, rfl⟩ := Int.eq_ofNat_of_zero_le W.2.1.1
    obtain ⟨s, rfl⟩ := Int.eq_ofNat_of_zero_le W.2.2.1.1
    obtain ⟨n, rfl⟩ := Int.eq_ofNat_of_zero_le W.2.2.2.2.1
    have hr : r < 7 := by omega
    have hm : m < 96 := by omega
    have hs : s < 4 := by omega
    have hn : n ≤ 24 := by omega
    rw [Int.toNat_natCast] at *
    -- the reference's side, to be asked for when the class's side is done
    have mm : ∀ {Q : Option zV → zS → Prop} {S : zS}, zX (d + 56 + 4) 187 43 [some (.inr (.inr (10, 0))), some (.inl (r : Int)), some (.inl (m : Int)), some (.inl (s : Int)), some (.inl o), some (.inl f), some (.inl (n : Int)), some (.inl 0), some (.inl 0), none, none, none] [] (mg S σ) Q → zM (d + 56 + 4) 187 [.inr (.inr (10, 0)), .inl (r : Int), .inl (m : Int), .inl (s : Int), .inl o, .inl f, .inl (n : Int)] (mg S σ) Q := fun {Q S} h =>
      z2_187 (d := d + 56) (fun nW => absurd W nW) (fun _ x => absurd x a) (fun _ _ x => absurd b x) (fun _ _ _ => h)
    obtain ⟨L, hL⟩ := Int.eq_ofNat_of_zero_le e3
    by_cases f0 : 0 ≤ f
    · obtain ⟨f, rfl⟩ := Int.eq_ofNat_of_zero_le f0
      by_cases c : f + n ≤ L ∨ n = 0
      · have hN : n = 0 ∨ (f + n : Int) ≤ σ.1 75 0 s := by rw [hL]; omega
        refine zg_cl (d := d + 46) R hr hm hs hn (Nat.le_refl n) hN ?_
        refine zb_102a (fun x => absurd (Int.le_refl _) x) (fun _ => ?_) (fun x => absurd (Int.le_refl _) x) (fun x => absurd (Int.le_refl _) x) (fun x => absurd (Int.le_refl _) x)
        refine mm (zg_ml (d := d + 56) R hr hm hs hn (Nat.le_refl n) hN (fun x x2 x3 => ?_))
        refine zb_187a (fun x => absurd (Int.le_refl _) x) (fun x => absurd (Int.le_refl _) x) (fun x => absurd (Int.le_refl _) x) (fun x => absurd (Int.le_refl _) x) (fun _ => ?_) (fun x => absurd (Int.le_refl _) x) (fun x => absurd (Int.le_refl _) x) (fun x => absurd (Int.le_refl _) x) (fun x => absurd (Int.le_refl _) x) (fun x => absurd (Int.le_refl _) x) (fun x => absurd (Int.le_refl _) x) (fun x => absurd (Int.le_refl _) x)
        rw [mg_self]
        exact ⟨⟨_, rfl, rfl⟩, yr_gS R hr n⟩
      · obtain ⟨N, hN1, hN2⟩ : ∃ N : Nat, N = L - f ∧ N < n := ⟨L - f, rfl, by omega⟩
        have hN : N = 0 ∨ (f + N : Int) ≤ σ.1 75 0 s := by rw [hL]; omega
        have nn : ¬ (n : Int) ≤ (N : Int) := by omega
        have big : σ.1 75 0 s ≤ (f : Int) + (N : Int) := by rw [hL]; omega
        have f31 : f < 2147483648 := by omega
        have N24 : N ≤ 24 := by omega
        have hs4 : (0 : Int) ≤ (s : Int) ∧ (s : Int) < 4 := by omega
        refine zg_cl (d := d + 46) R hr hm hs hn (Nat.le_of_lt hN2) hN ?_
        have fin : zX (d + 56 + 4) 187 43 [some (.inr (.inr (10, 0))), some (.inl (r : Int)), some (.inl (m : Int)), some (.inl (s : Int)), some (.inl o), some (.inl (f : Int)), some (.inl (n : Int)), some (.inl 0), some (.inl 0), none, none, none] [] (mg (ggS r m (ggV σ s f) σ N) σ) (fun b s' => (∃ v : Int, (some (.inl (-12)) : Option zV) = some (.inl v) ∧ b = some (.inl v)) ∧ yRel s') := by
          refine zg_ml (d := d + 56) R hr hm hs hn (Nat.le_of_lt hN2) hN (fun x x2 x3 => ?_)
          have ok : yRel (mg (ggS r m (ggV σ s f) σ N) (ggS r m (ggV σ s f) σ N)) := by rw [mg_self]; exact yr_gS R hr N
          have e7 : (mg (ggS r m (ggV σ s f) σ N) (ggS r m (ggV σ s f) σ N)).1 75 0 s = σ.1 75 0 s := by rw [mg_self]; exact congrFun (congrFun (gS_fr (.inl rfl) N) 0) s
          have z1 : zWl ((f : Int) + (N : Int)) = (f : Int) + (N : Int) := zWl_f f31 N24
          have lt : ¬ (f : Int) + (N : Int) < σ.1 75 0 s := Int.not_lt.mpr big
          exact zb_187a (fun _ _ => hs4) (fun _ _ x => absurd x (by rw [z1, Int.toNat_natCast, e7]; exact lt)) (fun _ _ => hs4) (fun _ _ x => absurd x (by rw [z1, Int.toNat_natCast, e7]; exact lt)) (fun x => absurd x nn) (fun _ _ _ => ⟨⟨_, rfl, rfl⟩, ok⟩) (fun _ _ _ => ⟨⟨_, rfl, rfl⟩, ok⟩) (fun _ _ x => absurd x (by rw [z1, Int.toNat_natCast, e7]; exact lt)) (fun _ _ _ => ⟨⟨_, rfl, rfl⟩, ok⟩) (fun _ _ _ => ⟨⟨_, rfl, rfl⟩, ok⟩) (fun _ _ x => absurd x (by rw [z1, Int.toNat_natCast, e7]; exact lt)) (fun _ _ => ⟨⟨_, rfl, rfl⟩, ok⟩)
        have e6 : (mg (ggS r m (ggV σ s f) σ N) σ).1 6 (4 * 0 + s) 2 = σ.1 75 0 s := e2
        have w6 : ¬ zW ((f : Int) + (N : Int)) < 0 → σ.1 75 0 s ≤ zW ((f : Int) + (N : Int)) := fun q => zW_ge big f31 N24 q
        exact zb_102a (fun _ x y => absurd (w6 x) (by rw [e6] at y; exact y)) (fun x => absurd x nn) (fun _ _ => mm fin) (fun _ _ _ => mm fin) (fun _ x y => absurd (w6 x) (by rw [e6] at y; exact y))
    · -- from below 0
      have hs4 : (0 : Int) ≤ (s : Int) ∧ (s : Int) < 4 := by omega
      have fn : f < 0 := by omega
      have fe : ¬ f = 0 := by omega
      have fp : ¬ 0 < f := by omega
      have hz : zW (f + 0) = f := (zf0 hf).1
      have zl : zWl (f + 0) = f := (zf0 hf).2
      have mg0 : mg σ σ = σ := mg_self
      refine zb_102a (fun _ x => absurd x (by rw [hz]; exact fun q => q fn)) (fun _ => ?_) (fun _ _ => ?_) (fun _ x => absurd x (by rw [hz]; exact fun q => q fn)) (fun _ x => absurd x (by rw [hz]; exact fun q => q fn))
      · rw [← mg0]
        refine mm ?_
        have n0 : (n : Int) = 0 := Int.le_antisymm ‹(n : Int) ≤ 0› (Int.natCast_nonneg _)
        have n0 : n = 0 := Int.ofNat.inj n0
        subst n0
        refine zb_187a (fun x => absurd (Int.le_refl _) x) (fun x => absurd (Int.le_refl _) x) (fun x => absurd (Int.le_refl _) x) (fun x => absurd (Int.le_refl _) x) (fun _ => ?_) (fun x => absurd (Int.le_refl _) x) (fun x => absurd (Int.le_refl _) x) (fun x => absurd (Int.le_refl _) x) (fun x => absurd (Int.le_refl _) x) (fun x => absurd (Int.le_refl _) x) (fun x => absurd (Int.le_refl _) x) (fun x => absurd (Int.le_refl _) x)
        rw [mg0]; exact ⟨⟨_, rfl, rfl⟩, R⟩
      · rw [← mg0]
        refine mm ?_
        have np : ¬ 0 < zWl (f + 0) := by rw [zl]; assumption
        have ne : ¬ zWl (f + 0) = 0 := by rw [zl]; assumption
        rw [mg0]
        exact zb_187a (fun _ x => absurd x np) (fun _ x => absurd x np) (fun _ x => absurd x ne) (fun _ x => absurd x ne) (fun _ => absurd ‹(n : Int) ≤ 0› ‹¬ (n : Int) ≤ 0›) (fun _ x => absurd x np) (fun _ x => absurd x np) (fun _ x => absurd x np) (fun _ x => absurd x ne) (fun _ x => absurd x ne) (fun _ x => absurd x ne) (fun _ _ => ⟨⟨_, rfl, rfl⟩, R⟩)
