-- taken (wip/whole/gen/laws36.py)
-- X9_taken
theorem zb_103 {d : Nat} {σ : zS} {Q : Option zV → zS → Prop} {p : Int} {k : Int}
    (o1 : 0 ≤ k ∧ k ≤ 5 → 0 ≤ σ.1 8 0 8 ∧ σ.1 8 0 8 ≤ 1000)
    (o2 : 0 ≤ k ∧ k ≤ 5 → 0 ≤ p ∧ p < σ.1 8 0 8 → (0 : Int) ≤ p ∧ p < (16 : Int))
    (o3 : 0 ≤ k ∧ k ≤ 5 → 0 ≤ p ∧ p < σ.1 8 0 8 → 0 ≤ σ.1 1 (16 * 0 + p.toNat) 0 ∧ σ.1 1 (16 * 0 + p.toNat) 0 ≤ 5)
    (h1 : 0 ≤ k ∧ k ≤ 5 → 0 ≤ p ∧ p < σ.1 8 0 8 → uOf (σ.1 1 (16 * 0 + p.toNat) 0) k → Q (some (.inl (σ.1 1 (16 * 0 + p.toNat) 3))) σ)
    (h2 : 0 ≤ k ∧ k ≤ 5 → 0 ≤ p ∧ p < σ.1 8 0 8 → ¬ uOf (σ.1 1 (16 * 0 + p.toNat) 0) k → Q (some (.inl (-13))) σ)
    (h3 : 0 ≤ k ∧ k ≤ 5 → ¬ (0 ≤ p ∧ p < σ.1 8 0 8) → Q (some (.inl (-11))) σ)
    (h4 : ¬ (0 ≤ k ∧ k ≤ 5) → Q (some (.inl (-2))) σ) :
    zM (d + 14) 103 [.inr (.inr (9, 0)), .inl p, .inl k] σ Q := by
  refine zX_run (n' := 3) (ls' := [some (.inr (.inr (9, 0))), some (.inl p), some (.inl k)]) (st' := [.inl 5, .inl 0, .inl k]) (σ' := σ) 3 rfl ?_
  refine zX_call rfl rfl ?_
  refine zs_104 (fun a1 => ?_) (fun a2 => ?_)
  · skip
    refine zX_run (n' := 9) (ls' := [some (.inr (.inr (9, 0))), some (.inl p), some (.inl k)]) (st' := [.inl p, .inr (.inr (9, 0))]) (σ' := σ) 3 rfl ?_
    refine zX_call rfl rfl ?_
    refine zs_112 (o1 a1) (fun a3 => ?_) (fun a4 => ?_)
    · skip
      refine zX_run (n' := 17) (ls' := [some (.inr (.inr (9, 0))), some (.inl p), some (.inl k)]) (st' := [.inl p, .inr (.inr (39, 0))]) (σ' := σ) 5 rfl ?_
      refine zX_ald5 (L := 16) rfl (by decide) rfl (o2 a1 a3) ?_
      refine zX_run (n' := 19) (ls' := [some (.inr (.inr (9, 0))), some (.inl p), some (.inl k)]) (st' := [.inl k, .inr (.inr (1, 16 * 0 + p.toNat))]) (σ' := σ) 1 rfl ?_
      refine zX_call rfl rfl ?_
      refine zs_31 (o3 a1 a3) (fun a5 => ?_) (fun a6 => ?_)
      · skip
        refine zX_run (n' := 25) (ls' := [some (.inr (.inr (9, 0))), some (.inl p), some (.inl k)]) (st' := [.inl p, .inr (.inr (39, 0))]) (σ' := σ) 5 rfl ?_
        refine zX_ald5 (L := 16) rfl (by decide) rfl (o2 a1 a3) ?_
        refine zX_run (n' := 29) (ls' := [some (.inr (.inr (9, 0))), some (.inl p), some (.inl k)]) (st' := [.inl (σ.1 1 (16 * 0 + p.toNat) 3)]) (σ' := σ) 2 rfl ?_
        exact zX_ret rfl rfl (h1 a1 a3 a5)
      · skip
        refine zX_run (n' := 29) (ls' := [some (.inr (.inr (9, 0))), some (.inl p), some (.inl k)]) (st' := [.inl (-13)]) (σ' := σ) 2 rfl ?_
        exact zX_ret rfl rfl (h2 a1 a3 a6)
    · skip
      refine zX_run (n' := 12) (ls' := [some (.inr (.inr (9, 0))), some (.inl p), some (.inl k)]) (st' := [.inl (-11)]) (σ' := σ) 2 rfl ?_
      exact zX_ret rfl rfl (h3 a1 a4)
  · skip
    refine zX_run (n' := 6) (ls' := [some (.inr (.inr (9, 0))), some (.inl p), some (.inl k)]) (st' := [.inl (-2)]) (σ' := σ) 2 rfl ?_
    exact zX_ret rfl rfl (h4 a2)
-- X10_taken
theorem zb_188 {d : Nat} {σ : zS} {Q : Option zV → zS → Prop} {p : Int} {k : Int}
    (o1 : ¬ k < 0 → k ≤ 5 → 0 ≤ p ∧ p < σ.1 10 0 4 → (0 : Int) ≤ p ∧ p < (17 : Int))
    (h1 : k < 0 → Q (some (.inl (-2))) σ)
    (h2 : ¬ k < 0 → k ≤ 5 → 0 ≤ p ∧ p < σ.1 10 0 4 → σ.1 60 0 (p.toNat) = k → Q (some (.inl (σ.1 63 0 (p.toNat)))) σ)
    (h3 : ¬ k < 0 → k ≤ 5 → 0 ≤ p ∧ p < σ.1 10 0 4 → ¬ σ.1 60 0 (p.toNat) = k → σ.1 60 0 (p.toNat) = 0 → Q (some (.inl (-13))) σ)
    (h4 : ¬ k < 0 → k ≤ 5 → 0 ≤ p ∧ p < σ.1 10 0 4 → ¬ σ.1 60 0 (p.toNat) = k → ¬ σ.1 60 0 (p.toNat) = 0 → σ.1 60 0 (p.toNat) = 1 → 0 = k → Q (some (.inl (σ.1 63 0 (p.toNat)))) σ)
    (h5 : ¬ k < 0 → k ≤ 5 → 0 ≤ p ∧ p < σ.1 10 0 4 → ¬ σ.1 60 0 (p.toNat) = k → ¬ σ.1 60 0 (p.toNat) = 0 → σ.1 60 0 (p.toNat) = 1 → ¬ 0 = k → Q (some (.inl (-13))) σ)
    (h6 : ¬ k < 0 → k ≤ 5 → 0 ≤ p ∧ p < σ.1 10 0 4 → ¬ σ.1 60 0 (p.toNat) = k → ¬ σ.1 60 0 (p.toNat) = 0 → ¬ σ.1 60 0 (p.toNat) = 1 → ¬ σ.1 60 0 (p.toNat) = 2 → ¬ σ.1 60 0 (p.toNat) = 5 → 1 = k → Q (some (.inl (σ.1 63 0 (p.toNat)))) σ)
    (h7 : ¬ k < 0 → k ≤ 5 → 0 ≤ p ∧ p < σ.1 10 0 4 → ¬ σ.1 60 0 (p.toNat) = k → ¬ σ.1 60 0 (p.toNat) = 0 → ¬ σ.1 60 0 (p.toNat) = 1 → ¬ σ.1 60 0 (p.toNat) = 2 → ¬ σ.1 60 0 (p.toNat) = 5 → ¬ 1 = k → 0 = k → Q (some (.inl (σ.1 63 0 (p.toNat)))) σ)
    (h8 : ¬ k < 0 → k ≤ 5 → 0 ≤ p ∧ p < σ.1 10 0 4 → ¬ σ.1 60 0 (p.toNat) = k → ¬ σ.1 60 0 (p.toNat) = 0 → ¬ σ.1 60 0 (p.toNat) = 1 → ¬ σ.1 60 0 (p.toNat) = 2 → ¬ σ.1 60 0 (p.toNat) = 5 → ¬ 1 = k → ¬ 0 = k → Q (some (.inl (-13))) σ)
    (h9 : ¬ k < 0 → k ≤ 5 → 0 ≤ p ∧ p < σ.1 10 0 4 → ¬ σ.1 60 0 (p.toNat) = k → ¬ σ.1 60 0 (p.toNat) = 0 → ¬ σ.1 60 0 (p.toNat) = 1 → ¬ σ.1 60 0 (p.toNat) = 2 → σ.1 60 0 (p.toNat) = 5 → 3 = k → Q (some (.inl (σ.1 63 0 (p.toNat)))) σ)
    (h10 : ¬ k < 0 → k ≤ 5 → 0 ≤ p ∧ p < σ.1 10 0 4 → ¬ σ.1 60 0 (p.toNat) = k → ¬ σ.1 60 0 (p.toNat) = 0 → ¬ σ.1 60 0 (p.toNat) = 1 → ¬ σ.1 60 0 (p.toNat) = 2 → σ.1 60 0 (p.toNat) = 5 → ¬ 3 = k → 1 = k → Q (some (.inl (σ.1 63 0 (p.toNat)))) σ)
    (h11 : ¬ k < 0 → k ≤ 5 → 0 ≤ p ∧ p < σ.1 10 0 4 → ¬ σ.1 60 0 (p.toNat) = k → ¬ σ.1 60 0 (p.toNat) = 0 → ¬ σ.1 60 0 (p.toNat) = 1 → ¬ σ.1 60 0 (p.toNat) = 2 → σ.1 60 0 (p.toNat) = 5 → ¬ 3 = k → ¬ 1 = k → 0 = k → Q (some (.inl (σ.1 63 0 (p.toNat)))) σ)
    (h12 : ¬ k < 0 → k ≤ 5 → 0 ≤ p ∧ p < σ.1 10 0 4 → ¬ σ.1 60 0 (p.toNat) = k → ¬ σ.1 60 0 (p.toNat) = 0 → ¬ σ.1 60 0 (p.toNat) = 1 → ¬ σ.1 60 0 (p.toNat) = 2 → σ.1 60 0 (p.toNat) = 5 → ¬ 3 = k → ¬ 1 = k → ¬ 0 = k → Q (some (.inl (-13))) σ)
    (h13 : ¬ k < 0 → k ≤ 5 → 0 ≤ p ∧ p < σ.1 10 0 4 → ¬ σ.1 60 0 (p.toNat) = k → ¬ σ.1 60 0 (p.toNat) = 0 → ¬ σ.1 60 0 (p.toNat) = 1 → σ.1 60 0 (p.toNat) = 2 → 0 = k → Q (some (.inl (σ.1 63 0 (p.toNat)))) σ)
    (h14 : ¬ k < 0 → k ≤ 5 → 0 ≤ p ∧ p < σ.1 10 0 4 → ¬ σ.1 60 0 (p.toNat) = k → ¬ σ.1 60 0 (p.toNat) = 0 → ¬ σ.1 60 0 (p.toNat) = 1 → σ.1 60 0 (p.toNat) = 2 → ¬ 0 = k → Q (some (.inl (-13))) σ)
    (h15 : ¬ k < 0 → k ≤ 5 → ¬ (0 ≤ p ∧ p < σ.1 10 0 4) → Q (some (.inl (-11))) σ)
    (h16 : ¬ k < 0 → ¬ k ≤ 5 → Q (some (.inl (-2))) σ) :
    zM (d + 2) 188 [.inr (.inr (10, 0)), .inl p, .inl k] σ Q := by
  refine zX_run (n' := 1) (ls' := [some (.inr (.inr (10, 0))), some (.inl p), some (.inl k), none]) (st' := [.inl k]) (σ' := σ) 1 rfl ?_
  refine zX_i2 rfl (fun a1 => ?_) (fun a1 => ?_)
  · skip
    refine zX_run (n' := 6) (ls' := [some (.inr (.inr (10, 0))), some (.inl p), some (.inl k), none]) (st' := [.inl (-2)]) (σ' := σ) 1 rfl ?_
    exact zX_ret rfl rfl (h1 a1)
  · skip
    refine zX_run (n' := 4) (ls' := [some (.inr (.inr (10, 0))), some (.inl p), some (.inl k), none]) (st' := [.inl 5, .inl k]) (σ' := σ) 2 rfl ?_
    refine zX_c5 rfl (fun a2 => ?_) (fun a2 => ?_)
    · skip
      refine zX_run (n' := 9) (ls' := [some (.inr (.inr (10, 0))), some (.inl p), some (.inl k), none]) (st' := [.inl p, .inr (.inr (10, 0))]) (σ' := σ) 2 rfl ?_
      refine zX_call rfl rfl ?_
      refine zs_121 (fun a3 => ?_) (fun a4 => ?_)
      · skip
        refine zX_run (n' := 16) (ls' := [some (.inr (.inr (10, 0))), some (.inl p), some (.inl k), none]) (st' := [.inl p, .inr (.inr (60, 0))]) (σ' := σ) 4 rfl ?_
        refine zX_ald1 (L := 17) rfl (by decide) rfl (o1 a1 a2 a3) ?_
        refine zX_run (n' := 20) (ls' := [some (.inr (.inr (10, 0))), some (.inl p), some (.inl k), some (.inl (σ.1 60 0 (p.toNat)))]) (st' := [.inl k, .inl (σ.1 60 0 (p.toNat))]) (σ' := σ) 3 rfl ?_
        refine zX_c0 rfl (fun a5 => ?_) (fun a5 => ?_)
        · skip
          refine zX_run (n' := 41) (ls' := [some (.inr (.inr (10, 0))), some (.inl p), some (.inl k), some (.inl (σ.1 60 0 (p.toNat)))]) (st' := [.inl k, .inl (σ.1 60 0 (p.toNat))]) (σ' := σ) 2 rfl ?_
          refine zX_c1 rfl (fun a6 => absurd a6 (by clear h1 h2 h3 h4 h5 h6 h7 h8 h9 h10 h11 h12 h13 h14 h15 h16 o1; omega)) (fun _ => ?_)
          refine zX_run (n' := 45) (ls' := [some (.inr (.inr (10, 0))), some (.inl p), some (.inl k), some (.inl (σ.1 60 0 (p.toNat)))]) (st' := [.inl p, .inr (.inr (63, 0))]) (σ' := σ) 3 rfl ?_
          refine zX_ald1 (L := 17) rfl (by decide) rfl (o1 a1 a2 a3) ?_
          refine zX_run (n' := 48) (ls' := [some (.inr (.inr (10, 0))), some (.inl p), some (.inl k), some (.inl (σ.1 60 0 (p.toNat)))]) (st' := [.inl (σ.1 63 0 (p.toNat))]) (σ' := σ) 1 rfl ?_
          exact zX_ret rfl rfl (h2 a1 a2 a3 a5)
        · skip
          refine zX_run (n' := 22) (ls' := [some (.inr (.inr (10, 0))), some (.inl p), some (.inl k), some (.inl (σ.1 60 0 (p.toNat)))]) (st' := [.inl (σ.1 60 0 (p.toNat))]) (σ' := σ) 1 rfl ?_
          refine zX_i0 rfl (fun a7 => ?_) (fun a7 => ?_)
          · skip
            refine zX_run (n' := 41) (ls' := [some (.inr (.inr (10, 0))), some (.inl p), some (.inl k), some (.inl (σ.1 60 0 (p.toNat)))]) (st' := [.inl k, .inl (σ.1 60 0 (p.toNat))]) (σ' := σ) 2 rfl ?_
            refine zX_c1 rfl (fun _ => ?_) (fun a8 => absurd a8 (by clear h1 h2 h3 h4 h5 h6 h7 h8 h9 h10 h11 h12 h13 h14 h15 h16 o1; omega))
            refine zX_run (n' := 48) (ls' := [some (.inr (.inr (10, 0))), some (.inl p), some (.inl k), some (.inl (σ.1 60 0 (p.toNat)))]) (st' := [.inl (-13)]) (σ' := σ) 1 rfl ?_
            exact zX_ret rfl rfl (h3 a1 a2 a3 a5 a7)
          · skip
            refine zX_run (n' := 25) (ls' := [some (.inr (.inr (10, 0))), some (.inl p), some (.inl k), some (.inl (σ.1 60 0 (p.toNat)))]) (st' := [.inl 1, .inl (σ.1 60 0 (p.toNat))]) (σ' := σ) 2 rfl ?_
            refine zX_c0 rfl (fun a9 => ?_) (fun a9 => ?_)
            · skip
              refine zX_run (n' := 20) (ls' := [some (.inr (.inr (10, 0))), some (.inl p), some (.inl k), some (.inl 0)]) (st' := [.inl k, .inl 0]) (σ' := σ) 6 rfl ?_
              refine zX_c0 rfl (fun a10 => ?_) (fun a10 => ?_)
              · skip
                refine zX_run (n' := 41) (ls' := [some (.inr (.inr (10, 0))), some (.inl p), some (.inl k), some (.inl 0)]) (st' := [.inl k, .inl 0]) (σ' := σ) 2 rfl ?_
                refine zX_c1 rfl (fun a11 => absurd a11 (by clear h1 h2 h3 h4 h5 h6 h7 h8 h9 h10 h11 h12 h13 h14 h15 h16 o1; omega)) (fun _ => ?_)
                refine zX_run (n' := 45) (ls' := [some (.inr (.inr (10, 0))), some (.inl p), some (.inl k), some (.inl 0)]) (st' := [.inl p, .inr (.inr (63, 0))]) (σ' := σ) 3 rfl ?_
                refine zX_ald1 (L := 17) rfl (by decide) rfl (o1 a1 a2 a3) ?_
                refine zX_run (n' := 48) (ls' := [some (.inr (.inr (10, 0))), some (.inl p), some (.inl k), some (.inl 0)]) (st' := [.inl (σ.1 63 0 (p.toNat))]) (σ' := σ) 1 rfl ?_
                exact zX_ret rfl rfl (h4 a1 a2 a3 a5 a7 a9 a10)
              · skip
                refine zX_run (n' := 41) (ls' := [some (.inr (.inr (10, 0))), some (.inl p), some (.inl k), some (.inl 0)]) (st' := [.inl k, .inl 0]) (σ' := σ) 4 rfl ?_
                refine zX_c1 rfl (fun _ => ?_) (fun a12 => absurd a12 (by clear h1 h2 h3 h4 h5 h6 h7 h8 h9 h10 h11 h12 h13 h14 h15 h16 o1; omega))
                refine zX_run (n' := 48) (ls' := [some (.inr (.inr (10, 0))), some (.inl p), some (.inl k), some (.inl 0)]) (st' := [.inl (-13)]) (σ' := σ) 1 rfl ?_
                exact zX_ret rfl rfl (h5 a1 a2 a3 a5 a7 a9 a10)
            · skip
              refine zX_run (n' := 28) (ls' := [some (.inr (.inr (10, 0))), some (.inl p), some (.inl k), some (.inl (σ.1 60 0 (p.toNat)))]) (st' := [.inl 2, .inl (σ.1 60 0 (p.toNat))]) (σ' := σ) 2 rfl ?_
              refine zX_c1 rfl (fun a13 => ?_) (fun a13 => ?_)
              · skip
                refine zX_run (n' := 33) (ls' := [some (.inr (.inr (10, 0))), some (.inl p), some (.inl k), some (.inl (σ.1 60 0 (p.toNat)))]) (st' := [.inl 5, .inl (σ.1 60 0 (p.toNat))]) (σ' := σ) 2 rfl ?_
                refine zX_c1 rfl (fun a14 => ?_) (fun a14 => ?_)
                · skip
                  refine zX_run (n' := 20) (ls' := [some (.inr (.inr (10, 0))), some (.inl p), some (.inl k), some (.inl 1)]) (st' := [.inl k, .inl 1]) (σ' := σ) 5 rfl ?_
                  refine zX_c0 rfl (fun a15 => ?_) (fun a15 => ?_)
                  · skip
                    refine zX_run (n' := 41) (ls' := [some (.inr (.inr (10, 0))), some (.inl p), some (.inl k), some (.inl 1)]) (st' := [.inl k, .inl 1]) (σ' := σ) 2 rfl ?_
                    refine zX_c1 rfl (fun a16 => absurd a16 (by clear h1 h2 h3 h4 h5 h6 h7 h8 h9 h10 h11 h12 h13 h14 h15 h16 o1; omega)) (fun _ => ?_)
                    refine zX_run (n' := 45) (ls' := [some (.inr (.inr (10, 0))), some (.inl p), some (.inl k), some (.inl 1)]) (st' := [.inl p, .inr (.inr (63, 0))]) (σ' := σ) 3 rfl ?_
                    refine zX_ald1 (L := 17) rfl (by decide) rfl (o1 a1 a2 a3) ?_
                    refine zX_run (n' := 48) (ls' := [some (.inr (.inr (10, 0))), some (.inl p), some (.inl k), some (.inl 1)]) (st' := [.inl (σ.1 63 0 (p.toNat))]) (σ' := σ) 1 rfl ?_
                    exact zX_ret rfl rfl (h6 a1 a2 a3 a5 a7 a9 a13 a14 a15)
                  · skip
                    refine zX_run (n' := 20) (ls' := [some (.inr (.inr (10, 0))), some (.inl p), some (.inl k), some (.inl 0)]) (st' := [.inl k, .inl 0]) (σ' := σ) 11 rfl ?_
                    refine zX_c0 rfl (fun a17 => ?_) (fun a17 => ?_)
                    · skip
                      refine zX_run (n' := 41) (ls' := [some (.inr (.inr (10, 0))), some (.inl p), some (.inl k), some (.inl 0)]) (st' := [.inl k, .inl 0]) (σ' := σ) 2 rfl ?_
                      refine zX_c1 rfl (fun a18 => absurd a18 (by clear h1 h2 h3 h4 h5 h6 h7 h8 h9 h10 h11 h12 h13 h14 h15 h16 o1; omega)) (fun _ => ?_)
                      refine zX_run (n' := 45) (ls' := [some (.inr (.inr (10, 0))), some (.inl p), some (.inl k), some (.inl 0)]) (st' := [.inl p, .inr (.inr (63, 0))]) (σ' := σ) 3 rfl ?_
                      refine zX_ald1 (L := 17) rfl (by decide) rfl (o1 a1 a2 a3) ?_
                      refine zX_run (n' := 48) (ls' := [some (.inr (.inr (10, 0))), some (.inl p), some (.inl k), some (.inl 0)]) (st' := [.inl (σ.1 63 0 (p.toNat))]) (σ' := σ) 1 rfl ?_
                      exact zX_ret rfl rfl (h7 a1 a2 a3 a5 a7 a9 a13 a14 a15 a17)
                    · skip
                      refine zX_run (n' := 41) (ls' := [some (.inr (.inr (10, 0))), some (.inl p), some (.inl k), some (.inl 0)]) (st' := [.inl k, .inl 0]) (σ' := σ) 4 rfl ?_
                      refine zX_c1 rfl (fun _ => ?_) (fun a19 => absurd a19 (by clear h1 h2 h3 h4 h5 h6 h7 h8 h9 h10 h11 h12 h13 h14 h15 h16 o1; omega))
                      refine zX_run (n' := 48) (ls' := [some (.inr (.inr (10, 0))), some (.inl p), some (.inl k), some (.inl 0)]) (st' := [.inl (-13)]) (σ' := σ) 1 rfl ?_
                      exact zX_ret rfl rfl (h8 a1 a2 a3 a5 a7 a9 a13 a14 a15 a17)
                · skip
                  refine zX_run (n' := 20) (ls' := [some (.inr (.inr (10, 0))), some (.inl p), some (.inl k), some (.inl 3)]) (st' := [.inl k, .inl 3]) (σ' := σ) 6 rfl ?_
                  refine zX_c0 rfl (fun a20 => ?_) (fun a20 => ?_)
                  · skip
                    refine zX_run (n' := 41) (ls' := [some (.inr (.inr (10, 0))), some (.inl p), some (.inl k), some (.inl 3)]) (st' := [.inl k, .inl 3]) (σ' := σ) 2 rfl ?_
                    refine zX_c1 rfl (fun a21 => absurd a21 (by clear h1 h2 h3 h4 h5 h6 h7 h8 h9 h10 h11 h12 h13 h14 h15 h16 o1; omega)) (fun _ => ?_)
                    refine zX_run (n' := 45) (ls' := [some (.inr (.inr (10, 0))), some (.inl p), some (.inl k), some (.inl 3)]) (st' := [.inl p, .inr (.inr (63, 0))]) (σ' := σ) 3 rfl ?_
                    refine zX_ald1 (L := 17) rfl (by decide) rfl (o1 a1 a2 a3) ?_
                    refine zX_run (n' := 48) (ls' := [some (.inr (.inr (10, 0))), some (.inl p), some (.inl k), some (.inl 3)]) (st' := [.inl (σ.1 63 0 (p.toNat))]) (σ' := σ) 1 rfl ?_
                    exact zX_ret rfl rfl (h9 a1 a2 a3 a5 a7 a9 a13 a14 a20)
                  · skip
                    refine zX_run (n' := 20) (ls' := [some (.inr (.inr (10, 0))), some (.inl p), some (.inl k), some (.inl 1)]) (st' := [.inl k, .inl 1]) (σ' := σ) 16 rfl ?_
                    refine zX_c0 rfl (fun a22 => ?_) (fun a22 => ?_)
                    · skip
                      refine zX_run (n' := 41) (ls' := [some (.inr (.inr (10, 0))), some (.inl p), some (.inl k), some (.inl 1)]) (st' := [.inl k, .inl 1]) (σ' := σ) 2 rfl ?_
                      refine zX_c1 rfl (fun a23 => absurd a23 (by clear h1 h2 h3 h4 h5 h6 h7 h8 h9 h10 h11 h12 h13 h14 h15 h16 o1; omega)) (fun _ => ?_)
                      refine zX_run (n' := 45) (ls' := [some (.inr (.inr (10, 0))), some (.inl p), some (.inl k), some (.inl 1)]) (st' := [.inl p, .inr (.inr (63, 0))]) (σ' := σ) 3 rfl ?_
                      refine zX_ald1 (L := 17) rfl (by decide) rfl (o1 a1 a2 a3) ?_
                      refine zX_run (n' := 48) (ls' := [some (.inr (.inr (10, 0))), some (.inl p), some (.inl k), some (.inl 1)]) (st' := [.inl (σ.1 63 0 (p.toNat))]) (σ' := σ) 1 rfl ?_
                      exact zX_ret rfl rfl (h10 a1 a2 a3 a5 a7 a9 a13 a14 a20 a22)
                    · skip
                      refine zX_run (n' := 20) (ls' := [some (.inr (.inr (10, 0))), some (.inl p), some (.inl k), some (.inl 0)]) (st' := [.inl k, .inl 0]) (σ' := σ) 11 rfl ?_
                      refine zX_c0 rfl (fun a24 => ?_) (fun a24 => ?_)
                      · skip
                        refine zX_run (n' := 41) (ls' := [some (.inr (.inr (10, 0))), some (.inl p), some (.inl k), some (.inl 0)]) (st' := [.inl k, .inl 0]) (σ' := σ) 2 rfl ?_
                        refine zX_c1 rfl (fun a25 => absurd a25 (by clear h1 h2 h3 h4 h5 h6 h7 h8 h9 h10 h11 h12 h13 h14 h15 h16 o1; omega)) (fun _ => ?_)
                        refine zX_run (n' := 45) (ls' := [some (.inr (.inr (10, 0))), some (.inl p), some (.inl k), some (.inl 0)]) (st' := [.inl p, .inr (.inr (63, 0))]) (σ' := σ) 3 rfl ?_
                        refine zX_ald1 (L := 17) rfl (by decide) rfl (o1 a1 a2 a3) ?_
                        refine zX_run (n' := 48) (ls' := [some (.inr (.inr (10, 0))), some (.inl p), some (.inl k), some (.inl 0)]) (st' := [.inl (σ.1 63 0 (p.toNat))]) (σ' := σ) 1 rfl ?_
                        exact zX_ret rfl rfl (h11 a1 a2 a3 a5 a7 a9 a13 a14 a20 a22 a24)
                      · skip
                        refine zX_run (n' := 41) (ls' := [some (.inr (.inr (10, 0))), some (.inl p), some (.inl k), some (.inl 0)]) (st' := [.inl k, .inl 0]) (σ' := σ) 4 rfl ?_
                        refine zX_c1 rfl (fun _ => ?_) (fun a26 => absurd a26 (by clear h1 h2 h3 h4 h5 h6 h7 h8 h9 h10 h11 h12 h13 h14 h15 h16 o1; omega))
                        refine zX_run (n' := 48) (ls' := [some (.inr (.inr (10, 0))), some (.inl p), some (.inl k), some (.inl 0)]) (st' := [.inl (-13)]) (σ' := σ) 1 rfl ?_
                        exact zX_ret rfl rfl (h12 a1 a2 a3 a5 a7 a9 a13 a14 a20 a22 a24)
              · skip
                refine zX_run (n' := 20) (ls' := [some (.inr (.inr (10, 0))), some (.inl p), some (.inl k), some (.inl 0)]) (st' := [.inl k, .inl 0]) (σ' := σ) 6 rfl ?_
                refine zX_c0 rfl (fun a27 => ?_) (fun a27 => ?_)
                · skip
                  refine zX_run (n' := 41) (ls' := [some (.inr (.inr (10, 0))), some (.inl p), some (.inl k), some (.inl 0)]) (st' := [.inl k, .inl 0]) (σ' := σ) 2 rfl ?_
                  refine zX_c1 rfl (fun a28 => absurd a28 (by clear h1 h2 h3 h4 h5 h6 h7 h8 h9 h10 h11 h12 h13 h14 h15 h16 o1; omega)) (fun _ => ?_)
                  refine zX_run (n' := 45) (ls' := [some (.inr (.inr (10, 0))), some (.inl p), some (.inl k), some (.inl 0)]) (st' := [.inl p, .inr (.inr (63, 0))]) (σ' := σ) 3 rfl ?_
                  refine zX_ald1 (L := 17) rfl (by decide) rfl (o1 a1 a2 a3) ?_
                  refine zX_run (n' := 48) (ls' := [some (.inr (.inr (10, 0))), some (.inl p), some (.inl k), some (.inl 0)]) (st' := [.inl (σ.1 63 0 (p.toNat))]) (σ' := σ) 1 rfl ?_
                  exact zX_ret rfl rfl (h13 a1 a2 a3 a5 a7 a9 a13 a27)
                · skip
                  refine zX_run (n' := 41) (ls' := [some (.inr (.inr (10, 0))), some (.inl p), some (.inl k), some (.inl 0)]) (st' := [.inl k, .inl 0]) (σ' := σ) 4 rfl ?_
                  refine zX_c1 rfl (fun _ => ?_) (fun a29 => absurd a29 (by clear h1 h2 h3 h4 h5 h6 h7 h8 h9 h10 h11 h12 h13 h14 h15 h16 o1; omega))
                  refine zX_run (n' := 48) (ls' := [some (.inr (.inr (10, 0))), some (.inl p), some (.inl k), some (.inl 0)]) (st' := [.inl (-13)]) (σ' := σ) 1 rfl ?_
                  exact zX_ret rfl rfl (h14 a1 a2 a3 a5 a7 a9 a13 a27)
      · skip
        refine zX_run (n' := 12) (ls' := [some (.inr (.inr (10, 0))), some (.inl p), some (.inl k), none]) (st' := [.inl (-11)]) (σ' := σ) 2 rfl ?_
        exact zX_ret rfl rfl (h15 a1 a2 a4)
    · skip
      refine zX_run (n' := 6) (ls' := [some (.inr (.inr (10, 0))), some (.inl p), some (.inl k), none]) (st' := [.inl (-2)]) (σ' := σ) 1 rfl ?_
      exact zX_ret rfl rfl (h16 a1 a2)
theorem z2_188 {d : Nat} {σ : zS} {Q : Option zV → zS → Prop} {p k : Int} (o1 : 0 ≤ k ∧ k ≤ 5 → 0 ≤ p ∧ p < σ.1 10 0 4 → (0 : Int) ≤ p ∧ p < (17 : Int)) (o2 : 0 ≤ p ∧ p < σ.1 10 0 4 → 0 ≤ σ.1 60 0 p.toNat ∧ σ.1 60 0 p.toNat ≤ 5)
    (h1 : 0 ≤ k ∧ k ≤ 5 → 0 ≤ p ∧ p < σ.1 10 0 4 → uOf (σ.1 60 0 p.toNat) k → Q (some (.inl (σ.1 63 0 p.toNat))) σ)
    (h2 : 0 ≤ k ∧ k ≤ 5 → 0 ≤ p ∧ p < σ.1 10 0 4 → ¬ uOf (σ.1 60 0 p.toNat) k → Q (some (.inl (-13))) σ)
    (h3 : 0 ≤ k ∧ k ≤ 5 → ¬ (0 ≤ p ∧ p < σ.1 10 0 4) → Q (some (.inl (-11))) σ)
    (h4 : ¬ (0 ≤ k ∧ k ≤ 5) → Q (some (.inl (-2))) σ) :
    zM (d + 2) 188 [.inr (.inr (10, 0)), .inl p, .inl k] σ Q := by
  have h1 : 0 ≤ k ∧ k ≤ 5 → 0 ≤ p ∧ p < σ.1 10 0 4 → (0 ≤ σ.1 60 0 p.toNat ∧ σ.1 60 0 p.toNat ≤ 5 → uOf (σ.1 60 0 p.toNat) k) → Q (some (.inl (σ.1 63 0 p.toNat))) σ := fun a b c => h1 a b (c (o2 b))
  have h2 : 0 ≤ k ∧ k ≤ 5 → 0 ≤ p ∧ p < σ.1 10 0 4 → (0 ≤ σ.1 60 0 p.toNat ∧ σ.1 60 0 p.toNat ≤ 5 → ¬ uOf (σ.1 60 0 p.toNat) k) → Q (some (.inl (-13))) σ := fun a b c => h2 a b (c (o2 b))
  exact zb_188 (fun _ _ a => by omega) (fun a0 => h4 (by omega)) (fun a0 a1 a2 a3 => h1 (by omega) a2 (by intro z; unfold uOf; omega)) (fun a0 a1 a2 a3 a4 => h2 (by omega) a2 (by intro z; unfold uOf; omega)) (fun a0 a1 a2 a3 a4 a5 a6 => h1 (by omega) a2 (by intro z; unfold uOf; omega)) (fun a0 a1 a2 a3 a4 a5 a6 => h2 (by omega) a2 (by intro z; unfold uOf; omega)) (fun a0 a1 a2 a3 a4 a5 a6 a7 a8 => h1 (by omega) a2 (by intro z; unfold uOf; omega)) (fun a0 a1 a2 a3 a4 a5 a6 a7 a8 a9 => h1 (by omega) a2 (by intro z; unfold uOf; omega)) (fun a0 a1 a2 a3 a4 a5 a6 a7 a8 a9 => h2 (by omega) a2 (by intro z; unfold uOf; omega)) (fun a0 a1 a2 a3 a4 a5 a6 a7 a8 => h1 (by omega) a2 (by intro z; unfold uOf; omega)) (fun a0 a1 a2 a3 a4 a5 a6 a7 a8 a9 => h1 (by omega) a2 (by intro z; unfold uOf; omega)) (fun a0 a1 a2 a3 a4 a5 a6 a7 a8 a9 a10 => h1 (by omega) a2 (by intro z; unfold uOf; omega)) (fun a0 a1 a2 a3 a4 a5 a6 a7 a8 a9 a10 => h2 (by omega) a2 (by intro z; unfold uOf; omega)) (fun a0 a1 a2 a3 a4 a5 a6 a7 => h1 (by omega) a2 (by intro z; unfold uOf; omega)) (fun a0 a1 a2 a3 a4 a5 a6 a7 => h2 (by omega) a2 (by intro z; unfold uOf; omega)) (fun a0 a1 a2 => h3 (by omega) a2) (fun a0 a1 => h4 (by omega))
theorem yp_taken {d : Nat} {σ : zS} (R : yRel σ) (p k : Int) : yPi d 103 188 [.inl p, .inl k] σ := by
  obtain ⟨H1, H2, H3⟩ := R.2.2.2.1
  have e := H1.1
  have u := H1.2.2
  have n7 : 0 ≤ k ∧ k ≤ 5 → 0 ≤ p ∧ p < σ.1 10 0 4 → (0 : Int) ≤ p ∧ p < (17 : Int) := fun _ q => by omega
  have P : 0 ≤ p ∧ p < σ.1 10 0 4 → 0 ≤ σ.1 60 0 p.toNat ∧ σ.1 60 0 p.toNat ≤ 5 := fun q => (H3 p.toNat (by omega)).1
  have M0 : 0 ≤ p ∧ p < σ.1 10 0 4 → σ.1 1 (16 * 0 + p.toNat) 0 = σ.1 60 0 p.toNat := fun q => (H2 p.toNat (by omega)).1
  have M3 : 0 ≤ p ∧ p < σ.1 10 0 4 → σ.1 1 (16 * 0 + p.toNat) 3 = σ.1 63 0 p.toNat := fun q => (H2 p.toNat (by omega)).2.2.2.1
  refine zb_103 (d := d + 46) (fun _ => by omega) (fun _ _ => by omega) (fun _ b => ?_) (fun a b c => ?_) (fun a b c => ?_) (fun a b => ?_) (fun a => ?_)
  · rw [M0 (by omega)]; exact P (by omega)
  · rw [M0 (by omega)] at c; rw [M3 (by omega)]
    exact z2_188 (d := d + 58) n7 P (fun _ _ _ => ⟨⟨_, rfl, rfl⟩, R⟩) (fun _ _ n => absurd c n) (fun _ n => absurd (by omega) n) (fun n => absurd a n)
  · rw [M0 (by omega)] at c
    exact z2_188 (d := d + 58) n7 P (fun _ _ n => absurd n c) (fun _ _ _ => ⟨⟨_, rfl, rfl⟩, R⟩) (fun _ n => absurd (by omega) n) (fun n => absurd a n)
  · exact z2_188 (d := d + 58) n7 P (fun _ n _ => absurd (by omega) b) (fun _ n _ => absurd (by omega) b) (fun _ _ => ⟨⟨_, rfl, rfl⟩, R⟩) (fun n => absurd a n)
  · exact z2_188 (d := d + 58) n7 P (fun n _ _ => absurd n a) (fun n _ _ => absurd n a) (fun n _ => absurd n a) (fun _ => ⟨⟨_, rfl, rfl⟩, R⟩)
