-- feed (wip/whole/gen/laws39.py)
-- X9_feed
theorem zb_82 {d : Nat} {σ : zS} {Q : Option zV → zS → Prop} {n b : Int}
    (h1 : 1 ≤ n ∧ n ≤ 8 → σ.1 5 0 1 ≤ zW (160 - n) → zX (d + 4) 82 18 [some (.inr (.inr (9, 0))), some (.inl n), some (.inr (.inl b)), none, some (.inl 0)] [] σ Q)
    (h2 : 1 ≤ n ∧ n ≤ 8 → ¬ σ.1 5 0 1 ≤ zW (160 - n) → Q (some (.inl (-4))) σ)
    (h3 : ¬ (1 ≤ n ∧ n ≤ 8) → Q (some (.inl (-2))) σ) :
    zM (d + 4) 82 [.inr (.inr (9, 0)), .inl n, .inr (.inl b)] σ Q := by
  refine zX_run (n' := 3) (ls' := [some (.inr (.inr (9, 0))), some (.inl n), some (.inr (.inl b)), none, none]) (st' := [.inl 8, .inl 1, .inl n]) (σ' := σ) 3 rfl ?_
  refine zX_call rfl rfl ?_
  refine zs_104 (fun a1 => ?_) (fun a2 => ?_)
  · skip
    refine zX_run (n' := 13) (ls' := [some (.inr (.inr (9, 0))), some (.inl n), some (.inr (.inl b)), none, none]) (st' := [.inl (zW (160 - n)), .inl (σ.1 5 0 1)]) (σ' := σ) 7 rfl ?_
    refine zX_c5 rfl (fun a3 => ?_) (fun a3 => ?_)
    · skip
      refine zX_run (n' := 18) (ls' := [some (.inr (.inr (9, 0))), some (.inl n), some (.inr (.inl b)), none, some (.inl 0)]) (st' := []) (σ' := σ) 2 rfl ?_
      exact h1 a1 a3
    · skip
      refine zX_run (n' := 15) (ls' := [some (.inr (.inr (9, 0))), some (.inl n), some (.inr (.inl b)), none, none]) (st' := [.inl (-4)]) (σ' := σ) 1 rfl ?_
      exact zX_ret rfl rfl (h2 a1 a3)
  · skip
    refine zX_run (n' := 6) (ls' := [some (.inr (.inr (9, 0))), some (.inl n), some (.inr (.inl b)), none, none]) (st' := [.inl (-2)]) (σ' := σ) 2 rfl ?_
    exact zX_ret rfl rfl (h3 a2)
-- X9_feed
theorem zb_82l {d : Nat} {σ : zS} {Q : Option zV → zS → Prop} {n b k : Int}
    (o1 : ¬ n ≤ k → (0 : Int) ≤ σ.1 5 0 1 ∧ σ.1 5 0 1 < (160 : Int))
    (h1 : n ≤ k → Q (some (.inl (σ.1 5 0 1))) σ)
    (h2 : ¬ n ≤ k → zX (d + 4) 82 18 [some (.inr (.inr (9, 0))), some (.inl n), some (.inr (.inl b)), none, some (.inl (zW (k + 1)))] [] (zU (zU σ 28 0 ((σ.1 5 0 1).toNat) (((zW (zLSh 2 b (zW (8 * k))) + 128) % 256 - 128 + 128) % 256 - 128)) 5 0 1 (zW ((σ.1 5 0 1) + 1))) Q) :
    zX (d + 4) 82 18 [some (.inr (.inr (9, 0))), some (.inl n), some (.inr (.inl b)), none, some (.inl k)] [] σ Q := by
  refine zX_run (n' := 20) (ls' := [some (.inr (.inr (9, 0))), some (.inl n), some (.inr (.inl b)), none, some (.inl k)]) (st' := [.inl n, .inl k]) (σ' := σ) 2 rfl ?_
  refine zX_c3 rfl (fun a1 => ?_) (fun a1 => ?_)
  · skip
    refine zX_run (n' := 47) (ls' := [some (.inr (.inr (9, 0))), some (.inl n), some (.inr (.inl b)), none, some (.inl k)]) (st' := [.inl (σ.1 5 0 1)]) (σ' := σ) 3 rfl ?_
    exact zX_ret rfl rfl (h1 a1)
  · skip
    refine zX_run (n' := 34) (ls' := [some (.inr (.inr (9, 0))), some (.inl n), some (.inr (.inl b)), none, some (.inl k)]) (st' := [.inl ((zW (zLSh 2 b (zW (8 * k))) + 128) % 256 - 128), .inl (σ.1 5 0 1), .inr (.inr (28, 0))]) (σ' := σ) 13 rfl ?_
    refine zX_ast3 (L := 160) rfl (by decide) rfl (o1 a1) ?_
    refine zX_run (n' := 18) (ls' := [some (.inr (.inr (9, 0))), some (.inl n), some (.inr (.inl b)), none, some (.inl (zW (k + 1)))]) (st' := []) (σ' := (zU (zU σ 28 0 ((σ.1 5 0 1).toNat) (((zW (zLSh 2 b (zW (8 * k))) + 128) % 256 - 128 + 128) % 256 - 128)) 5 0 1 (zW ((σ.1 5 0 1) + 1)))) 9 rfl ?_
    exact h2 a1
-- X10_feed
theorem zb_149 {d : Nat} {σ : zS} {Q : Option zV → zS → Prop} {n b : Int}
    (h1 : n < 1 → Q (some (.inl (-2))) σ)
    (h2 : ¬ n < 1 → n ≤ 8 → zW ((σ.1 10 0 7) + n) ≤ 160 → zX (d + 4) 149 18 [some (.inr (.inr (10, 0))), some (.inl n), some (.inr (.inl b)), none, some (.inl 0)] [] σ Q)
    (h3 : ¬ n < 1 → n ≤ 8 → ¬ zW ((σ.1 10 0 7) + n) ≤ 160 → Q (some (.inl (-4))) σ)
    (h4 : ¬ n < 1 → ¬ n ≤ 8 → Q (some (.inl (-2))) σ) :
    zM (d + 4) 149 [.inr (.inr (10, 0)), .inl n, .inr (.inl b)] σ Q := by
  refine zX_run (n' := 2) (ls' := [some (.inr (.inr (10, 0))), some (.inl n), some (.inr (.inl b)), none, none]) (st' := [.inl 1, .inl n]) (σ' := σ) 2 rfl ?_
  refine zX_c2 rfl (fun a1 => ?_) (fun a1 => ?_)
  · skip
    refine zX_run (n' := 7) (ls' := [some (.inr (.inr (10, 0))), some (.inl n), some (.inr (.inl b)), none, none]) (st' := [.inl (-2)]) (σ' := σ) 1 rfl ?_
    exact zX_ret rfl rfl (h1 a1)
  · skip
    refine zX_run (n' := 5) (ls' := [some (.inr (.inr (10, 0))), some (.inl n), some (.inr (.inl b)), none, none]) (st' := [.inl 8, .inl n]) (σ' := σ) 2 rfl ?_
    refine zX_c5 rfl (fun a2 => ?_) (fun a2 => ?_)
    · skip
      refine zX_run (n' := 13) (ls' := [some (.inr (.inr (10, 0))), some (.inl n), some (.inr (.inl b)), none, none]) (st' := [.inl 160, .inl (zW ((σ.1 10 0 7) + n))]) (σ' := σ) 5 rfl ?_
      refine zX_c5 rfl (fun a3 => ?_) (fun a3 => ?_)
      · skip
        refine zX_run (n' := 18) (ls' := [some (.inr (.inr (10, 0))), some (.inl n), some (.inr (.inl b)), none, some (.inl 0)]) (st' := []) (σ' := σ) 2 rfl ?_
        exact h2 a1 a2 a3
      · skip
        refine zX_run (n' := 15) (ls' := [some (.inr (.inr (10, 0))), some (.inl n), some (.inr (.inl b)), none, none]) (st' := [.inl (-4)]) (σ' := σ) 1 rfl ?_
        exact zX_ret rfl rfl (h3 a1 a2 a3)
    · skip
      refine zX_run (n' := 7) (ls' := [some (.inr (.inr (10, 0))), some (.inl n), some (.inr (.inl b)), none, none]) (st' := [.inl (-2)]) (σ' := σ) 1 rfl ?_
      exact zX_ret rfl rfl (h4 a1 a2)
-- X10_feed
theorem zb_149l {d : Nat} {σ : zS} {Q : Option zV → zS → Prop} {n b k : Int}
    (o1 : ¬ n ≤ k → (0 : Int) ≤ σ.1 10 0 7 ∧ σ.1 10 0 7 < (160 : Int))
    (h1 : n ≤ k → Q (some (.inl (σ.1 10 0 7))) σ)
    (h2 : ¬ n ≤ k → zX (d + 4) 149 18 [some (.inr (.inr (10, 0))), some (.inl n), some (.inr (.inl b)), none, some (.inl (zW (k + 1)))] [] (zU (zU σ 10 0 7 (zW ((σ.1 10 0 7) + 1))) 69 0 ((σ.1 10 0 7).toNat) (zW (zLBin 3 (zLSh 1 b (zW (8 * k))) 255))) Q) :
    zX (d + 4) 149 18 [some (.inr (.inr (10, 0))), some (.inl n), some (.inr (.inl b)), none, some (.inl k)] [] σ Q := by
  refine zX_run (n' := 20) (ls' := [some (.inr (.inr (10, 0))), some (.inl n), some (.inr (.inl b)), none, some (.inl k)]) (st' := [.inl n, .inl k]) (σ' := σ) 2 rfl ?_
  refine zX_c3 rfl (fun a1 => ?_) (fun a1 => ?_)
  · skip
    refine zX_run (n' := 43) (ls' := [some (.inr (.inr (10, 0))), some (.inl n), some (.inr (.inl b)), none, some (.inl k)]) (st' := [.inl (σ.1 10 0 7)]) (σ' := σ) 2 rfl ?_
    exact zX_ret rfl rfl (h1 a1)
  · skip
    refine zX_run (n' := 38) (ls' := [some (.inr (.inr (10, 0))), some (.inl n), some (.inr (.inl b)), none, some (.inl k)]) (st' := [.inl (zW (zLBin 3 (zLSh 1 b (zW (8 * k))) 255)), .inl (σ.1 10 0 7), .inr (.inr (69, 0))]) (σ' := (zU σ 10 0 7 (zW ((σ.1 10 0 7) + 1)))) 17 rfl ?_
    refine zX_ast1 (L := 160) rfl (by decide) rfl (o1 a1) ?_
    refine zX_run (n' := 18) (ls' := [some (.inr (.inr (10, 0))), some (.inl n), some (.inr (.inl b)), none, some (.inl (zW (k + 1)))]) (st' := []) (σ' := (zU (zU σ 10 0 7 (zW ((σ.1 10 0 7) + 1))) 69 0 ((σ.1 10 0 7).toNat) (zW (zLBin 3 (zLSh 1 b (zW (8 * k))) 255)))) 2 rfl ?_
    exact h2 a1
