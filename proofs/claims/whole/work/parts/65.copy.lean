-- copy (wip/whole/gen/laws40.py)
-- X9_copy
theorem zb_101 {d : Nat} {σ : zS} {Q : Option zV → zS → Prop} {s : Int} {i : Int} {t : Int} {j : Int} {n : Int}
    (o1 : 0 ≤ s ∧ s ≤ 3 → 0 ≤ t ∧ t ≤ 3 → (0 : Int) ≤ s ∧ s < (4 : Int))
    (o2 : 0 ≤ s ∧ s ≤ 3 → 0 ≤ t ∧ t ≤ 3 → (0 : Int) ≤ t ∧ t < (4 : Int))
    (h1 : 0 ≤ s ∧ s ≤ 3 → 0 ≤ t ∧ t ≤ 3 → σ.1 6 (4 * 0 + s.toNat) 1 = (-1) → Q (some (.inl (-11))) σ)
    (h2 : 0 ≤ s ∧ s ≤ 3 → 0 ≤ t ∧ t ≤ 3 → ¬ σ.1 6 (4 * 0 + s.toNat) 1 = (-1) → ¬ σ.1 6 (4 * 0 + t.toNat) 1 = (-1) → σ.1 6 (4 * 0 + s.toNat) 1 = σ.1 6 (4 * 0 + t.toNat) 1 → i < 0 → Q (some (.inl (-12))) σ)
    (h3 : 0 ≤ s ∧ s ≤ 3 → 0 ≤ t ∧ t ≤ 3 → ¬ σ.1 6 (4 * 0 + s.toNat) 1 = (-1) → ¬ σ.1 6 (4 * 0 + t.toNat) 1 = (-1) → σ.1 6 (4 * 0 + s.toNat) 1 = σ.1 6 (4 * 0 + t.toNat) 1 → ¬ i < 0 → n < 0 → Q (some (.inl (-12))) σ)
    (h4 : 0 ≤ s ∧ s ≤ 3 → 0 ≤ t ∧ t ≤ 3 → ¬ σ.1 6 (4 * 0 + s.toNat) 1 = (-1) → ¬ σ.1 6 (4 * 0 + t.toNat) 1 = (-1) → σ.1 6 (4 * 0 + s.toNat) 1 = σ.1 6 (4 * 0 + t.toNat) 1 → ¬ i < 0 → ¬ n < 0 → σ.1 6 (4 * 0 + s.toNat) 2 < i → Q (some (.inl (-12))) σ)
    (h5 : 0 ≤ s ∧ s ≤ 3 → 0 ≤ t ∧ t ≤ 3 → ¬ σ.1 6 (4 * 0 + s.toNat) 1 = (-1) → ¬ σ.1 6 (4 * 0 + t.toNat) 1 = (-1) → σ.1 6 (4 * 0 + s.toNat) 1 = σ.1 6 (4 * 0 + t.toNat) 1 → ¬ i < 0 → ¬ n < 0 → ¬ σ.1 6 (4 * 0 + s.toNat) 2 < i → zW ((σ.1 6 (4 * 0 + s.toNat) 2) - i) < n → Q (some (.inl (-12))) σ)
    (h6 : 0 ≤ s ∧ s ≤ 3 → 0 ≤ t ∧ t ≤ 3 → ¬ σ.1 6 (4 * 0 + s.toNat) 1 = (-1) → ¬ σ.1 6 (4 * 0 + t.toNat) 1 = (-1) → σ.1 6 (4 * 0 + s.toNat) 1 = σ.1 6 (4 * 0 + t.toNat) 1 → ¬ i < 0 → ¬ n < 0 → ¬ σ.1 6 (4 * 0 + s.toNat) 2 < i → ¬ zW ((σ.1 6 (4 * 0 + s.toNat) 2) - i) < n → j < 0 → Q (some (.inl (-12))) σ)
    (h7 : 0 ≤ s ∧ s ≤ 3 → 0 ≤ t ∧ t ≤ 3 → ¬ σ.1 6 (4 * 0 + s.toNat) 1 = (-1) → ¬ σ.1 6 (4 * 0 + t.toNat) 1 = (-1) → σ.1 6 (4 * 0 + s.toNat) 1 = σ.1 6 (4 * 0 + t.toNat) 1 → ¬ i < 0 → ¬ n < 0 → ¬ σ.1 6 (4 * 0 + s.toNat) 2 < i → ¬ zW ((σ.1 6 (4 * 0 + s.toNat) 2) - i) < n → ¬ j < 0 → n < 0 → Q (some (.inl (-12))) σ)
    (h8 : 0 ≤ s ∧ s ≤ 3 → 0 ≤ t ∧ t ≤ 3 → ¬ σ.1 6 (4 * 0 + s.toNat) 1 = (-1) → ¬ σ.1 6 (4 * 0 + t.toNat) 1 = (-1) → σ.1 6 (4 * 0 + s.toNat) 1 = σ.1 6 (4 * 0 + t.toNat) 1 → ¬ i < 0 → ¬ n < 0 → ¬ σ.1 6 (4 * 0 + s.toNat) 2 < i → ¬ zW ((σ.1 6 (4 * 0 + s.toNat) 2) - i) < n → ¬ j < 0 → ¬ n < 0 → σ.1 6 (4 * 0 + t.toNat) 2 < j → Q (some (.inl (-12))) σ)
    (h9 : 0 ≤ s ∧ s ≤ 3 → 0 ≤ t ∧ t ≤ 3 → ¬ σ.1 6 (4 * 0 + s.toNat) 1 = (-1) → ¬ σ.1 6 (4 * 0 + t.toNat) 1 = (-1) → σ.1 6 (4 * 0 + s.toNat) 1 = σ.1 6 (4 * 0 + t.toNat) 1 → ¬ i < 0 → ¬ n < 0 → ¬ σ.1 6 (4 * 0 + s.toNat) 2 < i → ¬ zW ((σ.1 6 (4 * 0 + s.toNat) 2) - i) < n → ¬ j < 0 → ¬ n < 0 → ¬ σ.1 6 (4 * 0 + t.toNat) 2 < j → zW ((σ.1 6 (4 * 0 + t.toNat) 2) - j) < n → Q (some (.inl (-12))) σ)
    (h10 : 0 ≤ s ∧ s ≤ 3 → 0 ≤ t ∧ t ≤ 3 → ¬ σ.1 6 (4 * 0 + s.toNat) 1 = (-1) → ¬ σ.1 6 (4 * 0 + t.toNat) 1 = (-1) → σ.1 6 (4 * 0 + s.toNat) 1 = σ.1 6 (4 * 0 + t.toNat) 1 → ¬ i < 0 → ¬ n < 0 → ¬ σ.1 6 (4 * 0 + s.toNat) 2 < i → ¬ zW ((σ.1 6 (4 * 0 + s.toNat) 2) - i) < n → ¬ j < 0 → ¬ n < 0 → ¬ σ.1 6 (4 * 0 + t.toNat) 2 < j → ¬ zW ((σ.1 6 (4 * 0 + t.toNat) 2) - j) < n → zX (d + 14) 101 54 [some (.inr (.inr (9, 0))), some (.inl s), some (.inl i), some (.inl t), some (.inl j), some (.inl n), some (.inr (.inr (6, 4 * 0 + s.toNat))), some (.inr (.inr (6, 4 * 0 + t.toNat)))] [.inl n, .inl j, .inr (.inr (32, 4 * 0 + t.toNat)), .inl i, .inr (.inr (32, 4 * 0 + s.toNat))] σ Q)
    (h11 : 0 ≤ s ∧ s ≤ 3 → 0 ≤ t ∧ t ≤ 3 → ¬ σ.1 6 (4 * 0 + s.toNat) 1 = (-1) → ¬ σ.1 6 (4 * 0 + t.toNat) 1 = (-1) → ¬ σ.1 6 (4 * 0 + s.toNat) 1 = σ.1 6 (4 * 0 + t.toNat) 1 → Q (some (.inl (-13))) σ)
    (h12 : 0 ≤ s ∧ s ≤ 3 → 0 ≤ t ∧ t ≤ 3 → ¬ σ.1 6 (4 * 0 + s.toNat) 1 = (-1) → σ.1 6 (4 * 0 + t.toNat) 1 = (-1) → Q (some (.inl (-11))) σ)
    (h13 : 0 ≤ s ∧ s ≤ 3 → ¬ (0 ≤ t ∧ t ≤ 3) → Q (some (.inl (-2))) σ)
    (h14 : ¬ (0 ≤ s ∧ s ≤ 3) → Q (some (.inl (-2))) σ) :
    zM (d + 14) 101 [.inr (.inr (9, 0)), .inl s, .inl i, .inl t, .inl j, .inl n] σ Q := by
  refine zX_run (n' := 1) (ls' := [some (.inr (.inr (9, 0))), some (.inl s), some (.inl i), some (.inl t), some (.inl j), some (.inl n), none, none]) (st' := [.inl s]) (σ' := σ) 1 rfl ?_
  refine zX_call rfl rfl ?_
  refine zs_110 (fun a1 => ?_) (fun a2 => ?_)
  · skip
    refine zX_run (n' := 4) (ls' := [some (.inr (.inr (9, 0))), some (.inl s), some (.inl i), some (.inl t), some (.inl j), some (.inl n), none, none]) (st' := [.inl t]) (σ' := σ) 2 rfl ?_
    refine zX_call rfl rfl ?_
    refine zs_110 (fun a3 => ?_) (fun a4 => ?_)
    · skip
      refine zX_run (n' := 11) (ls' := [some (.inr (.inr (9, 0))), some (.inl s), some (.inl i), some (.inl t), some (.inl j), some (.inl n), none, none]) (st' := [.inl s, .inr (.inr (46, 0))]) (σ' := σ) 4 rfl ?_
      refine zX_ald5 (L := 4) rfl (by decide) rfl (o1 a1 a3) ?_
      refine zX_run (n' := 16) (ls' := [some (.inr (.inr (9, 0))), some (.inl s), some (.inl i), some (.inl t), some (.inl j), some (.inl n), some (.inr (.inr (6, 4 * 0 + s.toNat))), none]) (st' := [.inl t, .inr (.inr (46, 0))]) (σ' := σ) 4 rfl ?_
      refine zX_ald5 (L := 4) rfl (by decide) rfl (o2 a1 a3) ?_
      refine zX_run (n' := 21) (ls' := [some (.inr (.inr (9, 0))), some (.inl s), some (.inl i), some (.inl t), some (.inl j), some (.inl n), some (.inr (.inr (6, 4 * 0 + s.toNat))), some (.inr (.inr (6, 4 * 0 + t.toNat)))]) (st' := [.inl (-1), .inl (σ.1 6 (4 * 0 + s.toNat) 1)]) (σ' := σ) 4 rfl ?_
      refine zX_c0 rfl (fun a5 => ?_) (fun a5 => ?_)
      · skip
        refine zX_run (n' := 27) (ls' := [some (.inr (.inr (9, 0))), some (.inl s), some (.inl i), some (.inl t), some (.inl j), some (.inl n), some (.inr (.inr (6, 4 * 0 + s.toNat))), some (.inr (.inr (6, 4 * 0 + t.toNat)))]) (st' := [.inl (-11)]) (σ' := σ) 1 rfl ?_
        exact zX_ret rfl rfl (h1 a1 a3 a5)
      · skip
        refine zX_run (n' := 25) (ls' := [some (.inr (.inr (9, 0))), some (.inl s), some (.inl i), some (.inl t), some (.inl j), some (.inl n), some (.inr (.inr (6, 4 * 0 + s.toNat))), some (.inr (.inr (6, 4 * 0 + t.toNat)))]) (st' := [.inl (-1), .inl (σ.1 6 (4 * 0 + t.toNat) 1)]) (σ' := σ) 3 rfl ?_
        refine zX_c1 rfl (fun a6 => ?_) (fun a6 => ?_)
        · skip
          refine zX_run (n' := 32) (ls' := [some (.inr (.inr (9, 0))), some (.inl s), some (.inl i), some (.inl t), some (.inl j), some (.inl n), some (.inr (.inr (6, 4 * 0 + s.toNat))), some (.inr (.inr (6, 4 * 0 + t.toNat)))]) (st' := [.inl (σ.1 6 (4 * 0 + t.toNat) 1), .inl (σ.1 6 (4 * 0 + s.toNat) 1)]) (σ' := σ) 4 rfl ?_
          refine zX_c0 rfl (fun a7 => ?_) (fun a7 => ?_)
          · skip
            refine zX_run (n' := 38) (ls' := [some (.inr (.inr (9, 0))), some (.inl s), some (.inl i), some (.inl t), some (.inl j), some (.inl n), some (.inr (.inr (6, 4 * 0 + s.toNat))), some (.inr (.inr (6, 4 * 0 + t.toNat)))]) (st' := [.inl n, .inl i, .inr (.inr (6, 4 * 0 + s.toNat))]) (σ' := σ) 3 rfl ?_
            refine zX_call rfl rfl ?_
            refine zm_56 (fun a8 => ?_) (fun a9 a10 => ?_) (fun a11 a12 a13 => ?_) (fun a14 a15 a16 a17 => ?_) (fun a18 a19 a20 a21 => ?_)
            · skip
              refine zX_run (n' := 46) (ls' := [some (.inr (.inr (9, 0))), some (.inl s), some (.inl i), some (.inl t), some (.inl j), some (.inl n), some (.inr (.inr (6, 4 * 0 + s.toNat))), some (.inr (.inr (6, 4 * 0 + t.toNat)))]) (st' := [.inl (-12)]) (σ' := σ) 2 rfl ?_
              exact zX_ret rfl rfl (h2 a1 a3 a5 a6 a7 a8)
            · skip
              refine zX_run (n' := 46) (ls' := [some (.inr (.inr (9, 0))), some (.inl s), some (.inl i), some (.inl t), some (.inl j), some (.inl n), some (.inr (.inr (6, 4 * 0 + s.toNat))), some (.inr (.inr (6, 4 * 0 + t.toNat)))]) (st' := [.inl (-12)]) (σ' := σ) 2 rfl ?_
              exact zX_ret rfl rfl (h3 a1 a3 a5 a6 a7 a9 a10)
            · skip
              refine zX_run (n' := 46) (ls' := [some (.inr (.inr (9, 0))), some (.inl s), some (.inl i), some (.inl t), some (.inl j), some (.inl n), some (.inr (.inr (6, 4 * 0 + s.toNat))), some (.inr (.inr (6, 4 * 0 + t.toNat)))]) (st' := [.inl (-12)]) (σ' := σ) 2 rfl ?_
              exact zX_ret rfl rfl (h4 a1 a3 a5 a6 a7 a11 a12 a13)
            · skip
              refine zX_run (n' := 46) (ls' := [some (.inr (.inr (9, 0))), some (.inl s), some (.inl i), some (.inl t), some (.inl j), some (.inl n), some (.inr (.inr (6, 4 * 0 + s.toNat))), some (.inr (.inr (6, 4 * 0 + t.toNat)))]) (st' := [.inl (-12)]) (σ' := σ) 2 rfl ?_
              exact zX_ret rfl rfl (h5 a1 a3 a5 a6 a7 a14 a15 a16 a17)
            · skip
              refine zX_run (n' := 43) (ls' := [some (.inr (.inr (9, 0))), some (.inl s), some (.inl i), some (.inl t), some (.inl j), some (.inl n), some (.inr (.inr (6, 4 * 0 + s.toNat))), some (.inr (.inr (6, 4 * 0 + t.toNat)))]) (st' := [.inl n, .inl j, .inr (.inr (6, 4 * 0 + t.toNat))]) (σ' := σ) 4 rfl ?_
              refine zX_call rfl rfl ?_
              refine zm_56 (fun a22 => ?_) (fun a23 a24 => ?_) (fun a25 a26 a27 => ?_) (fun a28 a29 a30 a31 => ?_) (fun a32 a33 a34 a35 => ?_)
              · skip
                refine zX_run (n' := 46) (ls' := [some (.inr (.inr (9, 0))), some (.inl s), some (.inl i), some (.inl t), some (.inl j), some (.inl n), some (.inr (.inr (6, 4 * 0 + s.toNat))), some (.inr (.inr (6, 4 * 0 + t.toNat)))]) (st' := [.inl (-12)]) (σ' := σ) 2 rfl ?_
                exact zX_ret rfl rfl (h6 a1 a3 a5 a6 a7 a18 a19 a20 a21 a22)
              · skip
                refine zX_run (n' := 46) (ls' := [some (.inr (.inr (9, 0))), some (.inl s), some (.inl i), some (.inl t), some (.inl j), some (.inl n), some (.inr (.inr (6, 4 * 0 + s.toNat))), some (.inr (.inr (6, 4 * 0 + t.toNat)))]) (st' := [.inl (-12)]) (σ' := σ) 2 rfl ?_
                exact zX_ret rfl rfl (h7 a1 a3 a5 a6 a7 a18 a19 a20 a21 a23 a24)
              · skip
                refine zX_run (n' := 46) (ls' := [some (.inr (.inr (9, 0))), some (.inl s), some (.inl i), some (.inl t), some (.inl j), some (.inl n), some (.inr (.inr (6, 4 * 0 + s.toNat))), some (.inr (.inr (6, 4 * 0 + t.toNat)))]) (st' := [.inl (-12)]) (σ' := σ) 2 rfl ?_
                exact zX_ret rfl rfl (h8 a1 a3 a5 a6 a7 a18 a19 a20 a21 a25 a26 a27)
              · skip
                refine zX_run (n' := 46) (ls' := [some (.inr (.inr (9, 0))), some (.inl s), some (.inl i), some (.inl t), some (.inl j), some (.inl n), some (.inr (.inr (6, 4 * 0 + s.toNat))), some (.inr (.inr (6, 4 * 0 + t.toNat)))]) (st' := [.inl (-12)]) (σ' := σ) 2 rfl ?_
                exact zX_ret rfl rfl (h9 a1 a3 a5 a6 a7 a18 a19 a20 a21 a28 a29 a30 a31)
              · skip
                refine zX_run (n' := 54) (ls' := [some (.inr (.inr (9, 0))), some (.inl s), some (.inl i), some (.inl t), some (.inl j), some (.inl n), some (.inr (.inr (6, 4 * 0 + s.toNat))), some (.inr (.inr (6, 4 * 0 + t.toNat)))]) (st' := [.inl n, .inl j, .inr (.inr (32, 4 * 0 + t.toNat)), .inl i, .inr (.inr (32, 4 * 0 + s.toNat))]) (σ' := σ) 8 rfl ?_
                exact h10 a1 a3 a5 a6 a7 a18 a19 a20 a21 a32 a33 a34 a35
          · skip
            refine zX_run (n' := 34) (ls' := [some (.inr (.inr (9, 0))), some (.inl s), some (.inl i), some (.inl t), some (.inl j), some (.inl n), some (.inr (.inr (6, 4 * 0 + s.toNat))), some (.inr (.inr (6, 4 * 0 + t.toNat)))]) (st' := [.inl (-13)]) (σ' := σ) 1 rfl ?_
            exact zX_ret rfl rfl (h11 a1 a3 a5 a6 a7)
        · skip
          refine zX_run (n' := 27) (ls' := [some (.inr (.inr (9, 0))), some (.inl s), some (.inl i), some (.inl t), some (.inl j), some (.inl n), some (.inr (.inr (6, 4 * 0 + s.toNat))), some (.inr (.inr (6, 4 * 0 + t.toNat)))]) (st' := [.inl (-11)]) (σ' := σ) 1 rfl ?_
          exact zX_ret rfl rfl (h12 a1 a3 a5 a6)
    · skip
      refine zX_run (n' := 7) (ls' := [some (.inr (.inr (9, 0))), some (.inl s), some (.inl i), some (.inl t), some (.inl j), some (.inl n), none, none]) (st' := [.inl (-2)]) (σ' := σ) 2 rfl ?_
      exact zX_ret rfl rfl (h13 a1 a4)
  · skip
    refine zX_run (n' := 7) (ls' := [some (.inr (.inr (9, 0))), some (.inl s), some (.inl i), some (.inl t), some (.inl j), some (.inl n), none, none]) (st' := [.inl (-2)]) (σ' := σ) 2 rfl ?_
    exact zX_ret rfl rfl (h14 a2)
-- X10_copy
theorem zb_186 {d : Nat} {σ : zS} {Q : Option zV → zS → Prop} {s : Int} {i : Int} {t : Int} {j : Int} {n : Int}
    (o1 : ¬ s < 0 → ¬ 3 < s → ¬ t < 0 → t ≤ 3 → (0 : Int) ≤ s ∧ s < (4 : Int))
    (o2 : ¬ s < 0 → ¬ 3 < s → ¬ t < 0 → t ≤ 3 → ¬ σ.1 74 0 (s.toNat) = (-1) → (0 : Int) ≤ t ∧ t < (4 : Int))
    (h1 : s < 0 → Q (some (.inl (-2))) σ)
    (h2 : ¬ s < 0 → 3 < s → Q (some (.inl (-2))) σ)
    (h3 : ¬ s < 0 → ¬ 3 < s → t < 0 → Q (some (.inl (-2))) σ)
    (h4 : ¬ s < 0 → ¬ 3 < s → ¬ t < 0 → t ≤ 3 → σ.1 74 0 (s.toNat) = (-1) → Q (some (.inl (-11))) σ)
    (h5 : ¬ s < 0 → ¬ 3 < s → ¬ t < 0 → t ≤ 3 → ¬ σ.1 74 0 (s.toNat) = (-1) → ¬ σ.1 74 0 (t.toNat) = (-1) → σ.1 74 0 (s.toNat) = σ.1 74 0 (t.toNat) → n < 0 → Q (some (.inl (-12))) σ)
    (h6 : ¬ s < 0 → ¬ 3 < s → ¬ t < 0 → t ≤ 3 → ¬ σ.1 74 0 (s.toNat) = (-1) → ¬ σ.1 74 0 (t.toNat) = (-1) → σ.1 74 0 (s.toNat) = σ.1 74 0 (t.toNat) → ¬ n < 0 → i < 0 → Q (some (.inl (-12))) σ)
    (h7 : ¬ s < 0 → ¬ 3 < s → ¬ t < 0 → t ≤ 3 → ¬ σ.1 74 0 (s.toNat) = (-1) → ¬ σ.1 74 0 (t.toNat) = (-1) → σ.1 74 0 (s.toNat) = σ.1 74 0 (t.toNat) → ¬ n < 0 → ¬ i < 0 → j < 0 → Q (some (.inl (-12))) σ)
    (h8 : ¬ s < 0 → ¬ 3 < s → ¬ t < 0 → t ≤ 3 → ¬ σ.1 74 0 (s.toNat) = (-1) → ¬ σ.1 74 0 (t.toNat) = (-1) → σ.1 74 0 (s.toNat) = σ.1 74 0 (t.toNat) → ¬ n < 0 → ¬ i < 0 → ¬ j < 0 → zW ((σ.1 75 0 (s.toNat)) - n) < i → Q (some (.inl (-12))) σ)
    (h9 : ¬ s < 0 → ¬ 3 < s → ¬ t < 0 → t ≤ 3 → ¬ σ.1 74 0 (s.toNat) = (-1) → ¬ σ.1 74 0 (t.toNat) = (-1) → σ.1 74 0 (s.toNat) = σ.1 74 0 (t.toNat) → ¬ n < 0 → ¬ i < 0 → ¬ j < 0 → ¬ zW ((σ.1 75 0 (s.toNat)) - n) < i → j ≤ zW ((σ.1 75 0 (t.toNat)) - n) → zX (d + 3) 186 63 [some (.inr (.inr (10, 0))), some (.inl s), some (.inl i), some (.inl t), some (.inl j), some (.inl n), some (.inl 0)] [] σ Q)
    (h10 : ¬ s < 0 → ¬ 3 < s → ¬ t < 0 → t ≤ 3 → ¬ σ.1 74 0 (s.toNat) = (-1) → ¬ σ.1 74 0 (t.toNat) = (-1) → σ.1 74 0 (s.toNat) = σ.1 74 0 (t.toNat) → ¬ n < 0 → ¬ i < 0 → ¬ j < 0 → ¬ zW ((σ.1 75 0 (s.toNat)) - n) < i → ¬ j ≤ zW ((σ.1 75 0 (t.toNat)) - n) → Q (some (.inl (-12))) σ)
    (h11 : ¬ s < 0 → ¬ 3 < s → ¬ t < 0 → t ≤ 3 → ¬ σ.1 74 0 (s.toNat) = (-1) → ¬ σ.1 74 0 (t.toNat) = (-1) → ¬ σ.1 74 0 (s.toNat) = σ.1 74 0 (t.toNat) → Q (some (.inl (-13))) σ)
    (h12 : ¬ s < 0 → ¬ 3 < s → ¬ t < 0 → t ≤ 3 → ¬ σ.1 74 0 (s.toNat) = (-1) → σ.1 74 0 (t.toNat) = (-1) → Q (some (.inl (-11))) σ)
    (h13 : ¬ s < 0 → ¬ 3 < s → ¬ t < 0 → ¬ t ≤ 3 → Q (some (.inl (-2))) σ) :
    zM (d + 3) 186 [.inr (.inr (10, 0)), .inl s, .inl i, .inl t, .inl j, .inl n] σ Q := by
  refine zX_run (n' := 1) (ls' := [some (.inr (.inr (10, 0))), some (.inl s), some (.inl i), some (.inl t), some (.inl j), some (.inl n), none]) (st' := [.inl s]) (σ' := σ) 1 rfl ?_
  refine zX_i2 rfl (fun a1 => ?_) (fun a1 => ?_)
  · skip
    refine zX_run (n' := 11) (ls' := [some (.inr (.inr (10, 0))), some (.inl s), some (.inl i), some (.inl t), some (.inl j), some (.inl n), none]) (st' := [.inl (-2)]) (σ' := σ) 1 rfl ?_
    exact zX_ret rfl rfl (h1 a1)
  · skip
    refine zX_run (n' := 4) (ls' := [some (.inr (.inr (10, 0))), some (.inl s), some (.inl i), some (.inl t), some (.inl j), some (.inl n), none]) (st' := [.inl 3, .inl s]) (σ' := σ) 2 rfl ?_
    refine zX_c4 rfl (fun a2 => ?_) (fun a2 => ?_)
    · skip
      refine zX_run (n' := 11) (ls' := [some (.inr (.inr (10, 0))), some (.inl s), some (.inl i), some (.inl t), some (.inl j), some (.inl n), none]) (st' := [.inl (-2)]) (σ' := σ) 1 rfl ?_
      exact zX_ret rfl rfl (h2 a1 a2)
    · skip
      refine zX_run (n' := 6) (ls' := [some (.inr (.inr (10, 0))), some (.inl s), some (.inl i), some (.inl t), some (.inl j), some (.inl n), none]) (st' := [.inl t]) (σ' := σ) 1 rfl ?_
      refine zX_i2 rfl (fun a3 => ?_) (fun a3 => ?_)
      · skip
        refine zX_run (n' := 11) (ls' := [some (.inr (.inr (10, 0))), some (.inl s), some (.inl i), some (.inl t), some (.inl j), some (.inl n), none]) (st' := [.inl (-2)]) (σ' := σ) 1 rfl ?_
        exact zX_ret rfl rfl (h3 a1 a2 a3)
      · skip
        refine zX_run (n' := 9) (ls' := [some (.inr (.inr (10, 0))), some (.inl s), some (.inl i), some (.inl t), some (.inl j), some (.inl n), none]) (st' := [.inl 3, .inl t]) (σ' := σ) 2 rfl ?_
        refine zX_c5 rfl (fun a4 => ?_) (fun a4 => ?_)
        · skip
          refine zX_run (n' := 15) (ls' := [some (.inr (.inr (10, 0))), some (.inl s), some (.inl i), some (.inl t), some (.inl j), some (.inl n), none]) (st' := [.inl s, .inr (.inr (74, 0))]) (σ' := σ) 3 rfl ?_
          refine zX_ald1 (L := 4) rfl (by decide) rfl (o1 a1 a2 a3 a4) ?_
          refine zX_run (n' := 17) (ls' := [some (.inr (.inr (10, 0))), some (.inl s), some (.inl i), some (.inl t), some (.inl j), some (.inl n), none]) (st' := [.inl (-1), .inl (σ.1 74 0 (s.toNat))]) (σ' := σ) 1 rfl ?_
          refine zX_c0 rfl (fun a5 => ?_) (fun a5 => ?_)
          · skip
            refine zX_run (n' := 25) (ls' := [some (.inr (.inr (10, 0))), some (.inl s), some (.inl i), some (.inl t), some (.inl j), some (.inl n), none]) (st' := [.inl (-11)]) (σ' := σ) 1 rfl ?_
            exact zX_ret rfl rfl (h4 a1 a2 a3 a4 a5)
          · skip
            refine zX_run (n' := 21) (ls' := [some (.inr (.inr (10, 0))), some (.inl s), some (.inl i), some (.inl t), some (.inl j), some (.inl n), none]) (st' := [.inl t, .inr (.inr (74, 0))]) (σ' := σ) 3 rfl ?_
            refine zX_ald1 (L := 4) rfl (by decide) rfl (o2 a1 a2 a3 a4 a5) ?_
            refine zX_run (n' := 23) (ls' := [some (.inr (.inr (10, 0))), some (.inl s), some (.inl i), some (.inl t), some (.inl j), some (.inl n), none]) (st' := [.inl (-1), .inl (σ.1 74 0 (t.toNat))]) (σ' := σ) 1 rfl ?_
            refine zX_c1 rfl (fun a6 => ?_) (fun a6 => ?_)
            · skip
              refine zX_run (n' := 29) (ls' := [some (.inr (.inr (10, 0))), some (.inl s), some (.inl i), some (.inl t), some (.inl j), some (.inl n), none]) (st' := [.inl s, .inr (.inr (74, 0))]) (σ' := σ) 3 rfl ?_
              refine zX_ald1 (L := 4) rfl (by decide) rfl (o1 a1 a2 a3 a4) ?_
              refine zX_run (n' := 33) (ls' := [some (.inr (.inr (10, 0))), some (.inl s), some (.inl i), some (.inl t), some (.inl j), some (.inl n), none]) (st' := [.inl t, .inr (.inr (74, 0)), .inl (σ.1 74 0 (s.toNat))]) (σ' := σ) 3 rfl ?_
              refine zX_ald1 (L := 4) rfl (by decide) rfl (o2 a1 a2 a3 a4 a5) ?_
              refine zX_c0 rfl (fun a7 => ?_) (fun a7 => ?_)
              · skip
                refine zX_run (n' := 38) (ls' := [some (.inr (.inr (10, 0))), some (.inl s), some (.inl i), some (.inl t), some (.inl j), some (.inl n), none]) (st' := [.inl n]) (σ' := σ) 1 rfl ?_
                refine zX_i2 rfl (fun a8 => ?_) (fun a8 => ?_)
                · skip
                  refine zX_run (n' := 60) (ls' := [some (.inr (.inr (10, 0))), some (.inl s), some (.inl i), some (.inl t), some (.inl j), some (.inl n), none]) (st' := [.inl (-12)]) (σ' := σ) 1 rfl ?_
                  exact zX_ret rfl rfl (h5 a1 a2 a3 a4 a5 a6 a7 a8)
                · skip
                  refine zX_run (n' := 40) (ls' := [some (.inr (.inr (10, 0))), some (.inl s), some (.inl i), some (.inl t), some (.inl j), some (.inl n), none]) (st' := [.inl i]) (σ' := σ) 1 rfl ?_
                  refine zX_i2 rfl (fun a9 => ?_) (fun a9 => ?_)
                  · skip
                    refine zX_run (n' := 60) (ls' := [some (.inr (.inr (10, 0))), some (.inl s), some (.inl i), some (.inl t), some (.inl j), some (.inl n), none]) (st' := [.inl (-12)]) (σ' := σ) 1 rfl ?_
                    exact zX_ret rfl rfl (h6 a1 a2 a3 a4 a5 a6 a7 a8 a9)
                  · skip
                    refine zX_run (n' := 42) (ls' := [some (.inr (.inr (10, 0))), some (.inl s), some (.inl i), some (.inl t), some (.inl j), some (.inl n), none]) (st' := [.inl j]) (σ' := σ) 1 rfl ?_
                    refine zX_i2 rfl (fun a10 => ?_) (fun a10 => ?_)
                    · skip
                      refine zX_run (n' := 60) (ls' := [some (.inr (.inr (10, 0))), some (.inl s), some (.inl i), some (.inl t), some (.inl j), some (.inl n), none]) (st' := [.inl (-12)]) (σ' := σ) 1 rfl ?_
                      exact zX_ret rfl rfl (h7 a1 a2 a3 a4 a5 a6 a7 a8 a9 a10)
                    · skip
                      refine zX_run (n' := 47) (ls' := [some (.inr (.inr (10, 0))), some (.inl s), some (.inl i), some (.inl t), some (.inl j), some (.inl n), none]) (st' := [.inl s, .inr (.inr (75, 0)), .inl i]) (σ' := σ) 4 rfl ?_
                      refine zX_ald1 (L := 4) rfl (by decide) rfl (o1 a1 a2 a3 a4) ?_
                      refine zX_run (n' := 50) (ls' := [some (.inr (.inr (10, 0))), some (.inl s), some (.inl i), some (.inl t), some (.inl j), some (.inl n), none]) (st' := [.inl (zW ((σ.1 75 0 (s.toNat)) - n)), .inl i]) (σ' := σ) 2 rfl ?_
                      refine zX_c4 rfl (fun a11 => ?_) (fun a11 => ?_)
                      · skip
                        refine zX_run (n' := 60) (ls' := [some (.inr (.inr (10, 0))), some (.inl s), some (.inl i), some (.inl t), some (.inl j), some (.inl n), none]) (st' := [.inl (-12)]) (σ' := σ) 1 rfl ?_
                        exact zX_ret rfl rfl (h8 a1 a2 a3 a4 a5 a6 a7 a8 a9 a10 a11)
                      · skip
                        refine zX_run (n' := 55) (ls' := [some (.inr (.inr (10, 0))), some (.inl s), some (.inl i), some (.inl t), some (.inl j), some (.inl n), none]) (st' := [.inl t, .inr (.inr (75, 0)), .inl j]) (σ' := σ) 4 rfl ?_
                        refine zX_ald1 (L := 4) rfl (by decide) rfl (o2 a1 a2 a3 a4 a5) ?_
                        refine zX_run (n' := 58) (ls' := [some (.inr (.inr (10, 0))), some (.inl s), some (.inl i), some (.inl t), some (.inl j), some (.inl n), none]) (st' := [.inl (zW ((σ.1 75 0 (t.toNat)) - n)), .inl j]) (σ' := σ) 2 rfl ?_
                        refine zX_c5 rfl (fun a12 => ?_) (fun a12 => ?_)
                        · skip
                          refine zX_run (n' := 63) (ls' := [some (.inr (.inr (10, 0))), some (.inl s), some (.inl i), some (.inl t), some (.inl j), some (.inl n), some (.inl 0)]) (st' := []) (σ' := σ) 2 rfl ?_
                          exact h9 a1 a2 a3 a4 a5 a6 a7 a8 a9 a10 a11 a12
                        · skip
                          refine zX_run (n' := 60) (ls' := [some (.inr (.inr (10, 0))), some (.inl s), some (.inl i), some (.inl t), some (.inl j), some (.inl n), none]) (st' := [.inl (-12)]) (σ' := σ) 1 rfl ?_
                          exact zX_ret rfl rfl (h10 a1 a2 a3 a4 a5 a6 a7 a8 a9 a10 a11 a12)
              · skip
                refine zX_run (n' := 36) (ls' := [some (.inr (.inr (10, 0))), some (.inl s), some (.inl i), some (.inl t), some (.inl j), some (.inl n), none]) (st' := [.inl (-13)]) (σ' := σ) 1 rfl ?_
                exact zX_ret rfl rfl (h11 a1 a2 a3 a4 a5 a6 a7)
            · skip
              refine zX_run (n' := 25) (ls' := [some (.inr (.inr (10, 0))), some (.inl s), some (.inl i), some (.inl t), some (.inl j), some (.inl n), none]) (st' := [.inl (-11)]) (σ' := σ) 1 rfl ?_
              exact zX_ret rfl rfl (h12 a1 a2 a3 a4 a5 a6)
        · skip
          refine zX_run (n' := 11) (ls' := [some (.inr (.inr (10, 0))), some (.inl s), some (.inl i), some (.inl t), some (.inl j), some (.inl n), none]) (st' := [.inl (-2)]) (σ' := σ) 1 rfl ?_
          exact zX_ret rfl rfl (h13 a1 a2 a3 a4)
-- X10_copy
theorem zb_186a {d : Nat} {σ : zS} {Q : Option zV → zS → Prop} {s i t j n k : Int}
    (o1 : ¬ n ≤ k → (0 : Int) ≤ zW ((zW ((zW (40 * s)) + i)) + k) ∧ zW ((zW ((zW (40 * s)) + i)) + k) < (160 : Int))
    (o2 : ¬ n ≤ k → (0 : Int) ≤ k ∧ k < (40 : Int))
    (h1 : n ≤ k → zX (d + 3) 186 84 [some (.inr (.inr (10, 0))), some (.inl s), some (.inl i), some (.inl t), some (.inl j), some (.inl n), some (.inl 0)] [] σ Q)
    (h2 : ¬ n ≤ k → zX (d + 3) 186 63 [some (.inr (.inr (10, 0))), some (.inl s), some (.inl i), some (.inl t), some (.inl j), some (.inl n), some (.inl (zW (k + 1)))] [] (zU σ 77 0 (k.toNat) (σ.1 76 0 ((zW ((zW ((zW (40 * s)) + i)) + k)).toNat))) Q) :
    zX (d + 3) 186 63 [some (.inr (.inr (10, 0))), some (.inl s), some (.inl i), some (.inl t), some (.inl j), some (.inl n), some (.inl k)] [] σ Q := by
  refine zX_run (n' := 65) (ls' := [some (.inr (.inr (10, 0))), some (.inl s), some (.inl i), some (.inl t), some (.inl j), some (.inl n), some (.inl k)]) (st' := [.inl n, .inl k]) (σ' := σ) 2 rfl ?_
  refine zX_c3 rfl (fun a1 => ?_) (fun a1 => ?_)
  · skip
    refine zX_run (n' := 84) (ls' := [some (.inr (.inr (10, 0))), some (.inl s), some (.inl i), some (.inl t), some (.inl j), some (.inl n), some (.inl 0)]) (st' := []) (σ' := σ) 2 rfl ?_
    exact h1 a1
  · skip
    refine zX_run (n' := 78) (ls' := [some (.inr (.inr (10, 0))), some (.inl s), some (.inl i), some (.inl t), some (.inl j), some (.inl n), some (.inl k)]) (st' := [.inl (zW ((zW ((zW (40 * s)) + i)) + k)), .inr (.inr (76, 0)), .inl k, .inr (.inr (77, 0))]) (σ' := σ) 12 rfl ?_
    refine zX_ald1 (L := 160) rfl (by decide) rfl (o1 a1) ?_
    refine zX_ast1 (L := 40) rfl (by decide) rfl (o2 a1) ?_
    refine zX_run (n' := 63) (ls' := [some (.inr (.inr (10, 0))), some (.inl s), some (.inl i), some (.inl t), some (.inl j), some (.inl n), some (.inl (zW (k + 1)))]) (st' := []) (σ' := (zU σ 77 0 (k.toNat) (σ.1 76 0 ((zW ((zW ((zW (40 * s)) + i)) + k)).toNat)))) 2 rfl ?_
    exact h2 a1
-- X10_copy
theorem zb_186b {d : Nat} {σ : zS} {Q : Option zV → zS → Prop} {s i t j n k : Int}
    (o1 : ¬ n ≤ k → (0 : Int) ≤ k ∧ k < (40 : Int))
    (o2 : ¬ n ≤ k → (0 : Int) ≤ zW ((zW ((zW (40 * t)) + j)) + k) ∧ zW ((zW ((zW (40 * t)) + j)) + k) < (160 : Int))
    (h1 : n ≤ k → Q (some (.inl n)) σ)
    (h2 : ¬ n ≤ k → zX (d + 3) 186 84 [some (.inr (.inr (10, 0))), some (.inl s), some (.inl i), some (.inl t), some (.inl j), some (.inl n), some (.inl (zW (k + 1)))] [] (zU σ 76 0 ((zW ((zW ((zW (40 * t)) + j)) + k)).toNat) (σ.1 77 0 (k.toNat))) Q) :
    zX (d + 3) 186 84 [some (.inr (.inr (10, 0))), some (.inl s), some (.inl i), some (.inl t), some (.inl j), some (.inl n), some (.inl k)] [] σ Q := by
  refine zX_run (n' := 86) (ls' := [some (.inr (.inr (10, 0))), some (.inl s), some (.inl i), some (.inl t), some (.inl j), some (.inl n), some (.inl k)]) (st' := [.inl n, .inl k]) (σ' := σ) 2 rfl ?_
  refine zX_c3 rfl (fun a1 => ?_) (fun a1 => ?_)
  · skip
    refine zX_run (n' := 104) (ls' := [some (.inr (.inr (10, 0))), some (.inl s), some (.inl i), some (.inl t), some (.inl j), some (.inl n), some (.inl k)]) (st' := [.inl n]) (σ' := σ) 1 rfl ?_
    exact zX_ret rfl rfl (h1 a1)
  · skip
    refine zX_run (n' := 99) (ls' := [some (.inr (.inr (10, 0))), some (.inl s), some (.inl i), some (.inl t), some (.inl j), some (.inl n), some (.inl k)]) (st' := [.inl k, .inr (.inr (77, 0)), .inl (zW ((zW ((zW (40 * t)) + j)) + k)), .inr (.inr (76, 0))]) (σ' := σ) 12 rfl ?_
    refine zX_ald1 (L := 40) rfl (by decide) rfl (o1 a1) ?_
    refine zX_ast1 (L := 160) rfl (by decide) rfl (o2 a1) ?_
    refine zX_run (n' := 84) (ls' := [some (.inr (.inr (10, 0))), some (.inl s), some (.inl i), some (.inl t), some (.inl j), some (.inl n), some (.inl (zW (k + 1)))]) (st' := []) (σ' := (zU σ 76 0 ((zW ((zW ((zW (40 * t)) + j)) + k)).toNat) (σ.1 77 0 (k.toNat)))) 2 rfl ?_
    exact h2 a1
-- X9_copy
theorem zb_101a {d : Nat} {σ : zS} {Q : Option zV → zS → Prop} {a b : Nat} {s i t j n : Int}
    (h1 : Q (some (.inl n)) σ) :
    zX (d + 14) 101 55 [some (.inr (.inr (9, 0))), some (.inl s), some (.inl i), some (.inl t), some (.inl j), some (.inl n), some (.inr (.inr (6, a))), some (.inr (.inr (6, b)))] [] σ Q := by
  refine zX_run (n' := 56) (ls' := [some (.inr (.inr (9, 0))), some (.inl s), some (.inl i), some (.inl t), some (.inl j), some (.inl n), some (.inr (.inr (6, a))), some (.inr (.inr (6, b)))]) (st' := [.inl n]) (σ' := σ) 1 rfl ?_
  exact zX_ret rfl rfl h1
theorem zFl_s {σ : zS} {K n lo hi : Nat} {g : Nat → Int} (h : lo ≤ hi) : zU (zFl σ K n lo hi g) K n hi (g hi) = zFl σ K n lo (hi + 1) g := by
  refine Prod.ext (funext fun a => funext fun b => funext fun j => ?_) rfl
  show (if a = K ∧ j = hi ∧ b = n then g hi else if a = K ∧ (lo ≤ j ∧ j < hi) ∧ b = n then g j else σ.1 a b j) = if a = K ∧ (lo ≤ j ∧ j < hi + 1) ∧ b = n then g j else σ.1 a b j
  by_cases p : a = K ∧ j = hi ∧ b = n
  · rw [if_pos p, if_pos ⟨p.1, ⟨by omega, by omega⟩, p.2.2⟩, p.2.1]
  · rw [if_neg p]
    by_cases q : a = K ∧ (lo ≤ j ∧ j < hi) ∧ b = n
    · rw [if_pos q, if_pos ⟨q.1, ⟨q.2.1.1, by omega⟩, q.2.2⟩]
    · rw [if_neg q, if_neg (fun r => ?_)]
      by_cases e : j = hi
      · exact p ⟨r.1, e, r.2.2⟩
      · exact q ⟨r.1, ⟨r.2.1.1, by omega⟩, r.2.2⟩
theorem z40k {s i k : Nat} (hs : s < 4) (hi : i + k < 40) : zW ((zW ((zW (40 * (s : Int))) + (i : Int))) + (k : Int)) = ((40 * s + i + k : Nat) : Int) := by
  rw [z40 hs (by omega)]; unfold zW; omega
theorem zl_186a {d : Nat} {σ : zS} {Q : Option zV → zS → Prop} {s i n : Nat} {t j : Int} (hs : s < 4) (hi : i + n ≤ 40)
    (h : zX (d + 3) 186 84 [some (.inr (.inr (10, 0))), some (.inl (s : Int)), some (.inl (i : Int)), some (.inl t), some (.inl j), some (.inl (n : Int)), some (.inl 0)] [] (zFl σ 77 0 0 n (fun x => σ.1 76 0 (40 * s + i + x))) Q) :
    zX (d + 3) 186 63 [some (.inr (.inr (10, 0))), some (.inl (s : Int)), some (.inl (i : Int)), some (.inl t), some (.inl j), some (.inl (n : Int)), some (.inl 0)] [] σ Q := by
  have L : zX (d + 3) 186 63 [some (.inr (.inr (10, 0))), some (.inl (s : Int)), some (.inl (i : Int)), some (.inl t), some (.inl j), some (.inl (n : Int)), some (.inl ((0 : Nat) : Int))] [] (zFl σ 77 0 0 0 (fun x => σ.1 76 0 (40 * s + i + x))) Q := by
    refine zLoop (P := fun k => zX (d + 3) 186 63 [some (.inr (.inr (10, 0))), some (.inl (s : Int)), some (.inl (i : Int)), some (.inl t), some (.inl j), some (.inl (n : Int)), some (.inl (k : Int))] [] (zFl σ 77 0 0 k (fun x => σ.1 76 0 (40 * s + i + x))) Q) (k := 0) (N := n) (Nat.zero_le _) ?_ (fun k _ hk ih => ?_)
    · exact zb_186a (fun a => absurd (Int.le_refl _) a) (fun a => absurd (Int.le_refl _) a) (fun _ => h) (fun a => absurd (Int.le_refl _) a)
    · have z := z40k (s := s) (i := i) (k := k) hs (by omega)
      have nl : ¬ (n : Int) ≤ (k : Int) := by omega
      have ix : (0 : Int) ≤ ((40 * s + i + k : Nat) : Int) ∧ ((40 * s + i + k : Nat) : Int) < 160 := by omega
      have ik : (0 : Int) ≤ (k : Int) ∧ (k : Int) < 40 := by omega
      refine zb_186a (fun _ => by rw [z]; exact ix) (fun _ => ik) (fun a => absurd a nl) (fun _ => ?_)
      rw [z, Int.toNat_natCast, Int.toNat_natCast, zWs (by omega)]
      rw [show (zFl σ 77 0 0 k (fun x => σ.1 76 0 (40 * s + i + x))).1 76 0 (40 * s + i + k) = (fun x => σ.1 76 0 (40 * s + i + x)) k from rfl, zFl_s (Nat.zero_le _)]
      exact ih
  rw [zFl_0] at L
  exact L
theorem zl_186b {d : Nat} {σ : zS} {Q : Option zV → zS → Prop} {t j n : Nat} {s i : Int} (ht : t < 4) (hj : j + n ≤ 40)
    (h : Q (some (.inl (n : Int))) (zFl σ 76 0 (40 * t + j) (40 * t + j + n) (fun x => σ.1 77 0 (x - (40 * t + j))))) :
    zX (d + 3) 186 84 [some (.inr (.inr (10, 0))), some (.inl s), some (.inl i), some (.inl (t : Int)), some (.inl (j : Int)), some (.inl (n : Int)), some (.inl 0)] [] σ Q := by
  have L : zX (d + 3) 186 84 [some (.inr (.inr (10, 0))), some (.inl s), some (.inl i), some (.inl (t : Int)), some (.inl (j : Int)), some (.inl (n : Int)), some (.inl ((0 : Nat) : Int))] [] (zFl σ 76 0 (40 * t + j) (40 * t + j + 0) (fun x => σ.1 77 0 (x - (40 * t + j)))) Q := by
    refine zLoop (P := fun k => zX (d + 3) 186 84 [some (.inr (.inr (10, 0))), some (.inl s), some (.inl i), some (.inl (t : Int)), some (.inl (j : Int)), some (.inl (n : Int)), some (.inl (k : Int))] [] (zFl σ 76 0 (40 * t + j) (40 * t + j + k) (fun x => σ.1 77 0 (x - (40 * t + j)))) Q) (k := 0) (N := n) (Nat.zero_le _) ?_ (fun k _ hk ih => ?_)
    · exact zb_186b (fun a => absurd (Int.le_refl _) a) (fun a => absurd (Int.le_refl _) a) (fun _ => h) (fun a => absurd (Int.le_refl _) a)
    · have z := z40k (s := t) (i := j) (k := k) ht (by omega)
      have nl : ¬ (n : Int) ≤ (k : Int) := by omega
      have ix : (0 : Int) ≤ ((40 * t + j + k : Nat) : Int) ∧ ((40 * t + j + k : Nat) : Int) < 160 := by omega
      have ik : (0 : Int) ≤ (k : Int) ∧ (k : Int) < 40 := by omega
      refine zb_186b (fun _ => ik) (fun _ => by rw [z]; exact ix) (fun a => absurd a nl) (fun _ => ?_)
      have v : (zFl σ 76 0 (40 * t + j) (40 * t + j + k) (fun x => σ.1 77 0 (x - (40 * t + j)))).1 77 0 k = (fun x => σ.1 77 0 (x - (40 * t + j))) (40 * t + j + k) := by
        show σ.1 77 0 k = σ.1 77 0 (40 * t + j + k - (40 * t + j))
        rw [Nat.add_sub_cancel_left]
      rw [z, Int.toNat_natCast, Int.toNat_natCast, zWs (by omega), v, zFl_s (Nat.le_add_right _ _)]
      exact ih
  rw [show zFl σ 76 0 (40 * t + j) (40 * t + j + 0) (fun x => σ.1 77 0 (x - (40 * t + j))) = σ from zFl_0] at L
  exact L
theorem rBase_cp {σ : zS} {s i t j n : Nat} (B : rBase σ) : rBase (zFl (zFl (zCp σ 32 (4 * 0 + s) i 32 (4 * 0 + t) j n) 77 0 0 n (fun x => (zCp σ 32 (4 * 0 + s) i 32 (4 * 0 + t) j n).1 76 0 (40 * s + i + x))) 76 0 (40 * t + j) (40 * t + j + n) (fun x => (zFl (zCp σ 32 (4 * 0 + s) i 32 (4 * 0 + t) j n) 77 0 0 n (fun x => (zCp σ 32 (4 * 0 + s) i 32 (4 * 0 + t) j n).1 76 0 (40 * s + i + x))).1 77 0 (x - (40 * t + j)))) := B
theorem yr_copy {σ : zS} (R : yRel σ) {s i t j n : Nat} (hs : s < 4) (ht : t < 4) (hi : i + n ≤ 40) (hj : j + n ≤ 40) : yRel (zFl (zFl (zCp σ 32 (4 * 0 + s) i 32 (4 * 0 + t) j n) 77 0 0 n (fun x => (zCp σ 32 (4 * 0 + s) i 32 (4 * 0 + t) j n).1 76 0 (40 * s + i + x))) 76 0 (40 * t + j) (40 * t + j + n) (fun x => (zFl (zCp σ 32 (4 * 0 + s) i 32 (4 * 0 + t) j n) 77 0 0 n (fun x => (zCp σ 32 (4 * 0 + s) i 32 (4 * 0 + t) j n).1 76 0 (40 * s + i + x))).1 77 0 (x - (40 * t + j)))) := by
  obtain ⟨S, G, L, H, C, Tx, Ru, K, Tp, Sh, B⟩ := R
  refine ⟨S, G, L, H, C, Tx, Ru, K, Tp, fun u hu => ?_, rBase_cp B⟩
  obtain ⟨h1, h2, h3, h4, h5⟩ := Sh u hu
  refine ⟨h1, h2, h3, h4, fun x hx => ?_⟩
  show (if 32 = 32 ∧ 4 * 0 + u = 4 * 0 + t ∧ j ≤ x ∧ x < j + n then σ.1 32 (4 * 0 + s) (i + (x - j)) else σ.1 32 (4 * 0 + u) x) = (if 76 = 76 ∧ (40 * t + j ≤ 40 * u + x ∧ 40 * u + x < 40 * t + j + n) ∧ 0 = 0 then (if 77 = 77 ∧ (0 ≤ 40 * u + x - (40 * t + j) ∧ 40 * u + x - (40 * t + j) < n) ∧ 0 = 0 then σ.1 76 0 (40 * s + i + (40 * u + x - (40 * t + j))) else σ.1 77 0 (40 * u + x - (40 * t + j))) else σ.1 76 0 (40 * u + x))
  by_cases e : u = t ∧ j ≤ x ∧ x < j + n
  · obtain ⟨e1, e2, e3⟩ := e
    subst e1
    rw [if_pos ⟨rfl, rfl, e2, e3⟩, if_pos ⟨rfl, ⟨by omega, by omega⟩, rfl⟩, if_pos ⟨rfl, ⟨by omega, by omega⟩, rfl⟩]
    rw [show 40 * u + x - (40 * u + j) = x - j by omega, show 40 * s + i + (x - j) = 40 * s + (i + (x - j)) by omega]
    exact (Sh s hs).2.2.2.2 (i + (x - j)) (by omega)
  · rw [if_neg (fun q => e ⟨by omega, q.2.2⟩), if_neg (fun q => e ?_)]
    · exact h5 x hx
    · have q := q.2.1
      have : u = t := by omega
      subst this
      exact ⟨rfl, by omega, by omega⟩
