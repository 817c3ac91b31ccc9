-- the reference: a run (wip/whole/gen/laws28.py)
-- X10_run
theorem zb_158a {d : Nat} {σ : zS} {Q : Option zV → zS → Prop} {k : Int} {x : Option zV}
    (o1 : ¬ 672 ≤ k → (0 : Int) ≤ k ∧ k < (672 : Int))
    (h1 : 672 ≤ k → zX (d + 6) 158 14 [some (.inr (.inr (10, 0))), some (.inl 0), x] [] σ Q)
    (h2 : ¬ 672 ≤ k → zX (d + 6) 158 2 [some (.inr (.inr (10, 0))), some (.inl (zW (k + 1))), x] [] (zU σ 100 0 (k.toNat) (-1)) Q) :
    zX (d + 6) 158 2 [some (.inr (.inr (10, 0))), some (.inl k), x] [] σ Q := by
  refine zX_run (n' := 4) (ls' := [some (.inr (.inr (10, 0))), some (.inl k), x]) (st' := [.inl 672, .inl k]) (σ' := σ) 2 rfl ?_
  refine zX_c3 rfl (fun a1 => ?_) (fun a1 => ?_)
  · skip
    refine zX_run (n' := 14) (ls' := [some (.inr (.inr (10, 0))), some (.inl 0), x]) (st' := []) (σ' := σ) 2 rfl ?_
    exact h1 a1
  · skip
    refine zX_run (n' := 9) (ls' := [some (.inr (.inr (10, 0))), some (.inl k), x]) (st' := [.inl (-1), .inl k, .inr (.inr (100, 0))]) (σ' := σ) 4 rfl ?_
    refine zX_ast1 (L := 672) rfl (by decide) rfl (o1 a1) ?_
    refine zX_run (n' := 2) (ls' := [some (.inr (.inr (10, 0))), some (.inl (zW (k + 1))), x]) (st' := []) (σ' := (zU σ 100 0 (k.toNat) (-1))) 2 rfl ?_
    exact h2 a1
-- X10_run
theorem zb_158b {d : Nat} {σ : zS} {Q : Option zV → zS → Prop} {k : Int} {x : Option zV}
    (o1 : ¬ σ.1 10 0 3 ≤ k → (0 : Int) ≤ k ∧ k < (40 : Int))
    (o2 : ¬ σ.1 10 0 3 ≤ k → (0 : Int) ≤ zW ((zW (7 * (σ.1 53 0 (k.toNat)))) + (σ.1 52 0 (k.toNat))) ∧ zW ((zW (7 * (σ.1 53 0 (k.toNat)))) + (σ.1 52 0 (k.toNat))) < (672 : Int))
    (h1 : σ.1 10 0 3 ≤ k → zX (d + 6) 158 40 [some (.inr (.inr (10, 0))), some (.inl 0), x] [] σ Q)
    (h2 : ¬ σ.1 10 0 3 ≤ k → zX (d + 6) 158 14 [some (.inr (.inr (10, 0))), some (.inl (zW (k + 1))), x] [] (zU σ 100 0 ((zW ((zW (7 * (σ.1 53 0 (k.toNat)))) + (σ.1 52 0 (k.toNat)))).toNat) (σ.1 54 0 (k.toNat))) Q) :
    zX (d + 6) 158 14 [some (.inr (.inr (10, 0))), some (.inl k), x] [] σ Q := by
  refine zX_run (n' := 17) (ls' := [some (.inr (.inr (10, 0))), some (.inl k), x]) (st' := [.inl (σ.1 10 0 3), .inl k]) (σ' := σ) 3 rfl ?_
  refine zX_c3 rfl (fun a1 => ?_) (fun a1 => ?_)
  · skip
    refine zX_run (n' := 40) (ls' := [some (.inr (.inr (10, 0))), some (.inl 0), x]) (st' := []) (σ' := σ) 2 rfl ?_
    exact h1 a1
  · skip
    refine zX_run (n' := 24) (ls' := [some (.inr (.inr (10, 0))), some (.inl k), x]) (st' := [.inl k, .inr (.inr (53, 0)), .inl 7, .inr (.inr (100, 0))]) (σ' := σ) 6 rfl ?_
    refine zX_ald1 (L := 40) rfl (by decide) rfl (o1 a1) ?_
    refine zX_run (n' := 29) (ls' := [some (.inr (.inr (10, 0))), some (.inl k), x]) (st' := [.inl k, .inr (.inr (52, 0)), .inl (zW (7 * (σ.1 53 0 (k.toNat)))), .inr (.inr (100, 0))]) (σ' := σ) 4 rfl ?_
    refine zX_ald1 (L := 40) rfl (by decide) rfl (o1 a1) ?_
    refine zX_run (n' := 34) (ls' := [some (.inr (.inr (10, 0))), some (.inl k), x]) (st' := [.inl k, .inr (.inr (54, 0)), .inl (zW ((zW (7 * (σ.1 53 0 (k.toNat)))) + (σ.1 52 0 (k.toNat)))), .inr (.inr (100, 0))]) (σ' := σ) 4 rfl ?_
    refine zX_ald1 (L := 40) rfl (by decide) rfl (o1 a1) ?_
    refine zX_ast1 (L := 672) rfl (by decide) rfl (o2 a1) ?_
    refine zX_run (n' := 14) (ls' := [some (.inr (.inr (10, 0))), some (.inl (zW (k + 1))), x]) (st' := []) (σ' := (zU σ 100 0 ((zW ((zW (7 * (σ.1 53 0 (k.toNat)))) + (σ.1 52 0 (k.toNat)))).toNat) (σ.1 54 0 (k.toNat)))) 2 rfl ?_
    exact h2 a1
-- X10_run
theorem zb_158c {d : Nat} {σ : zS} {Q : Option zV → zS → Prop} {k : Int} {x : Option zV}
    (o1 : ¬ 672 ≤ k → (0 : Int) ≤ k ∧ k < (672 : Int))
    (o2 : ¬ 672 ≤ k → σ.1 100 0 (k.toNat) = (-1) → ¬ zW (k - zW (zW (k.tdiv 7) * 7)) = 0 → (0 : Int) ≤ zW (k - 1) ∧ zW (k - 1) < (672 : Int))
    (h1 : 672 ≤ k → zX (d + 6) 158 69 [some (.inr (.inr (10, 0))), some (.inl 0), x] [] σ Q)
    (h2 : ¬ 672 ≤ k → ¬ σ.1 100 0 (k.toNat) = (-1) → zX (d + 6) 158 40 [some (.inr (.inr (10, 0))), some (.inl (zW (k + 1))), x] [] σ Q)
    (h3 : ¬ 672 ≤ k → σ.1 100 0 (k.toNat) = (-1) → ¬ zW (k - zW (zW (k.tdiv 7) * 7)) = 0 → zX (d + 6) 158 40 [some (.inr (.inr (10, 0))), some (.inl (zW (k + 1))), x] [] (zU σ 100 0 (k.toNat) (σ.1 100 0 ((zW (k - 1)).toNat))) Q)
    (h4 : ¬ 672 ≤ k → σ.1 100 0 (k.toNat) = (-1) → zW (k - zW (zW (k.tdiv 7) * 7)) = 0 → zX (d + 6) 158 40 [some (.inr (.inr (10, 0))), some (.inl (zW (k + 1))), x] [] (zU σ 100 0 (k.toNat) 0) Q) :
    zX (d + 6) 158 40 [some (.inr (.inr (10, 0))), some (.inl k), x] [] σ Q := by
  refine zX_run (n' := 42) (ls' := [some (.inr (.inr (10, 0))), some (.inl k), x]) (st' := [.inl 672, .inl k]) (σ' := σ) 2 rfl ?_
  refine zX_c3 rfl (fun a1 => ?_) (fun a1 => ?_)
  · skip
    refine zX_run (n' := 69) (ls' := [some (.inr (.inr (10, 0))), some (.inl 0), x]) (st' := []) (σ' := σ) 2 rfl ?_
    exact h1 a1
  · skip
    refine zX_run (n' := 46) (ls' := [some (.inr (.inr (10, 0))), some (.inl k), x]) (st' := [.inl k, .inr (.inr (100, 0))]) (σ' := σ) 3 rfl ?_
    refine zX_ald1 (L := 672) rfl (by decide) rfl (o1 a1) ?_
    refine zX_run (n' := 48) (ls' := [some (.inr (.inr (10, 0))), some (.inl k), x]) (st' := [.inl (-1), .inl (σ.1 100 0 (k.toNat))]) (σ' := σ) 1 rfl ?_
    refine zX_c1 rfl (fun a2 => ?_) (fun a2 => ?_)
    · skip
      refine zX_run (n' := 40) (ls' := [some (.inr (.inr (10, 0))), some (.inl (zW (k + 1))), x]) (st' := []) (σ' := σ) 2 rfl ?_
      exact h2 a1 a2
    · skip
      refine zX_run (n' := 55) (ls' := [some (.inr (.inr (10, 0))), some (.inl k), x]) (st' := [.inl (zW (k - zW (zW (k.tdiv 7) * 7))), .inl k, .inr (.inr (100, 0))]) (σ' := σ) 6 rfl ?_
      refine zX_i1 rfl (fun a3 => ?_) (fun a3 => ?_)
      · skip
        refine zX_run (n' := 63) (ls' := [some (.inr (.inr (10, 0))), some (.inl k), x]) (st' := [.inl (zW (k - 1)), .inr (.inr (100, 0)), .inl k, .inr (.inr (100, 0))]) (σ' := σ) 5 rfl ?_
        refine zX_ald1 (L := 672) rfl (by decide) rfl (o2 a1 a2 a3) ?_
        refine zX_ast1 (L := 672) rfl (by decide) rfl (o1 a1) ?_
        refine zX_run (n' := 40) (ls' := [some (.inr (.inr (10, 0))), some (.inl (zW (k + 1))), x]) (st' := []) (σ' := (zU σ 100 0 (k.toNat) (σ.1 100 0 ((zW (k - 1)).toNat)))) 2 rfl ?_
        exact h3 a1 a2 a3
      · skip
        refine zX_run (n' := 64) (ls' := [some (.inr (.inr (10, 0))), some (.inl k), x]) (st' := [.inl 0, .inl k, .inr (.inr (100, 0))]) (σ' := σ) 2 rfl ?_
        refine zX_ast1 (L := 672) rfl (by decide) rfl (o1 a1) ?_
        refine zX_run (n' := 40) (ls' := [some (.inr (.inr (10, 0))), some (.inl (zW (k + 1))), x]) (st' := []) (σ' := (zU σ 100 0 (k.toNat) 0)) 2 rfl ?_
        exact h4 a1 a2 a3
-- X10_run
theorem zb_158d {d : Nat} {σ : zS} {Q : Option zV → zS → Prop} {k : Int} {x : Option zV}
    (h1 : σ.1 10 0 4 ≤ k → zX (d + 6) 158 110 [some (.inr (.inr (10, 0))), some (.inl 0), x] [] σ Q)
    (h2 : ¬ σ.1 10 0 4 ≤ k → zX (d + 6) 158 75 [some (.inr (.inr (10, 0))), some (.inl k), some (.inl k)] [] σ Q) :
    zX (d + 6) 158 69 [some (.inr (.inr (10, 0))), some (.inl k), x] [] σ Q := by
  refine zX_run (n' := 72) (ls' := [some (.inr (.inr (10, 0))), some (.inl k), x]) (st' := [.inl (σ.1 10 0 4), .inl k]) (σ' := σ) 3 rfl ?_
  refine zX_c3 rfl (fun a1 => ?_) (fun a1 => ?_)
  · skip
    refine zX_run (n' := 110) (ls' := [some (.inr (.inr (10, 0))), some (.inl 0), x]) (st' := []) (σ' := σ) 2 rfl ?_
    exact h1 a1
  · skip
    refine zX_run (n' := 75) (ls' := [some (.inr (.inr (10, 0))), some (.inl k), some (.inl k)]) (st' := []) (σ' := σ) 2 rfl ?_
    exact h2 a1
-- X10_run
theorem zb_158e {d : Nat} {σ : zS} {Q : Option zV → zS → Prop} {h p : Int}
    (o1 : p ≤ 0 → (0 : Int) ≤ p ∧ p < (17 : Int))
    (o2 : ¬ p ≤ 0 → (0 : Int) ≤ zW (p - 1) ∧ zW (p - 1) < (17 : Int))
    (o3 : ¬ p ≤ 0 → 0 ≤ (σ.1 99 0 ((zW (p - 1)).toNat)) ∧ (σ.1 99 0 ((zW (p - 1)).toNat)) < 17)
    (o4 : ¬ p ≤ 0 → 0 ≤ h ∧ h < 17)
    (o5 : ¬ p ≤ 0 → uRank (σ.1 60 0 (σ.1 99 0 ((zW (p - 1)).toNat)).toNat) (σ.1 64 0 (σ.1 99 0 ((zW (p - 1)).toNat)).toNat) ≤ uRank (σ.1 60 0 h.toNat) (σ.1 64 0 h.toNat) → (0 : Int) ≤ p ∧ p < (17 : Int))
    (o6 : ¬ p ≤ 0 → ¬ uRank (σ.1 60 0 (σ.1 99 0 ((zW (p - 1)).toNat)).toNat) (σ.1 64 0 (σ.1 99 0 ((zW (p - 1)).toNat)).toNat) ≤ uRank (σ.1 60 0 h.toNat) (σ.1 64 0 h.toNat) → (0 : Int) ≤ p ∧ p < (17 : Int))
    (h1 : p ≤ 0 → zX (d + 6) 158 69 [some (.inr (.inr (10, 0))), some (.inl (zW (h + 1))), some (.inl p)] [] (zU σ 99 0 (p.toNat) h) Q)
    (h2 : ¬ p ≤ 0 → uRank (σ.1 60 0 (σ.1 99 0 ((zW (p - 1)).toNat)).toNat) (σ.1 64 0 (σ.1 99 0 ((zW (p - 1)).toNat)).toNat) ≤ uRank (σ.1 60 0 h.toNat) (σ.1 64 0 h.toNat) → zX (d + 6) 158 69 [some (.inr (.inr (10, 0))), some (.inl (zW (h + 1))), some (.inl p)] [] (zU σ 99 0 (p.toNat) h) Q)
    (h3 : ¬ p ≤ 0 → ¬ uRank (σ.1 60 0 (σ.1 99 0 ((zW (p - 1)).toNat)).toNat) (σ.1 64 0 (σ.1 99 0 ((zW (p - 1)).toNat)).toNat) ≤ uRank (σ.1 60 0 h.toNat) (σ.1 64 0 h.toNat) → zX (d + 6) 158 75 [some (.inr (.inr (10, 0))), some (.inl h), some (.inl (zW (p + (-1))))] [] (zU σ 99 0 (p.toNat) (σ.1 99 0 ((zW (p - 1)).toNat))) Q) :
    zX (d + 6) 158 75 [some (.inr (.inr (10, 0))), some (.inl h), some (.inl p)] [] σ Q := by
  refine zX_run (n' := 76) (ls' := [some (.inr (.inr (10, 0))), some (.inl h), some (.inl p)]) (st' := [.inl p]) (σ' := σ) 1 rfl ?_
  refine zX_i5 rfl (fun a1 => ?_) (fun a1 => ?_)
  · skip
    refine zX_run (n' := 105) (ls' := [some (.inr (.inr (10, 0))), some (.inl h), some (.inl p)]) (st' := [.inl h, .inl p, .inr (.inr (99, 0))]) (σ' := σ) 4 rfl ?_
    refine zX_ast1 (L := 17) rfl (by decide) rfl (o1 a1) ?_
    refine zX_run (n' := 69) (ls' := [some (.inr (.inr (10, 0))), some (.inl (zW (h + 1))), some (.inl p)]) (st' := []) (σ' := (zU σ 99 0 (p.toNat) h)) 2 rfl ?_
    exact h1 a1
  · skip
    refine zX_run (n' := 83) (ls' := [some (.inr (.inr (10, 0))), some (.inl h), some (.inl p)]) (st' := [.inl (zW (p - 1)), .inr (.inr (99, 0)), .inr (.inr (10, 0))]) (σ' := σ) 6 rfl ?_
    refine zX_ald1 (L := 17) rfl (by decide) rfl (o2 a1) ?_
    refine zX_call rfl rfl ?_
    refine zs_135 (o3 a1) ?_
    · skip
      refine zX_run (n' := 87) (ls' := [some (.inr (.inr (10, 0))), some (.inl h), some (.inl p)]) (st' := [.inl h, .inr (.inr (10, 0)), .inl (uRank (σ.1 60 0 (σ.1 99 0 ((zW (p - 1)).toNat)).toNat) (σ.1 64 0 (σ.1 99 0 ((zW (p - 1)).toNat)).toNat))]) (σ' := σ) 2 rfl ?_
      refine zX_call rfl rfl ?_
      refine zs_135 (o4 a1) ?_
      · skip
        refine zX_c5 rfl (fun a2 => ?_) (fun a2 => ?_)
        · skip
          refine zX_run (n' := 105) (ls' := [some (.inr (.inr (10, 0))), some (.inl h), some (.inl p)]) (st' := [.inl h, .inl p, .inr (.inr (99, 0))]) (σ' := σ) 4 rfl ?_
          refine zX_ast1 (L := 17) rfl (by decide) rfl (o5 a1 a2) ?_
          refine zX_run (n' := 69) (ls' := [some (.inr (.inr (10, 0))), some (.inl (zW (h + 1))), some (.inl p)]) (st' := []) (σ' := (zU σ 99 0 (p.toNat) h)) 2 rfl ?_
          exact h2 a1 a2
        · skip
          refine zX_run (n' := 97) (ls' := [some (.inr (.inr (10, 0))), some (.inl h), some (.inl p)]) (st' := [.inl (zW (p - 1)), .inr (.inr (99, 0)), .inl p, .inr (.inr (99, 0))]) (σ' := σ) 8 rfl ?_
          refine zX_ald1 (L := 17) rfl (by decide) rfl (o2 a1) ?_
          refine zX_ast1 (L := 17) rfl (by decide) rfl (o6 a1 a2) ?_
          refine zX_run (n' := 75) (ls' := [some (.inr (.inr (10, 0))), some (.inl h), some (.inl (zW (p + (-1))))]) (st' := []) (σ' := (zU σ 99 0 (p.toNat) (σ.1 99 0 ((zW (p - 1)).toNat)))) 2 rfl ?_
          exact h3 a1 a2
-- X10_run
theorem zb_158f {d : Nat} {σ : zS} {Q : Option zV → zS → Prop} {k : Int} {x : Option zV}
    (o1 : ¬ 7 ≤ k → (0 : Int) ≤ k ∧ k < (7 : Int))
    (o2 : ¬ 7 ≤ k → σ.1 55 0 (k.toNat) = 0 → (0 : Int) ≤ k ∧ k < (672 : Int))
    (o3 : ¬ 7 ≤ k → ¬ σ.1 55 0 (k.toNat) = 0 → (0 : Int) ≤ k ∧ k < (672 : Int))
    (h1 : 7 ≤ k → zX (d + 6) 158 137 [some (.inr (.inr (10, 0))), some (.inl 0), x] [] σ Q)
    (h2 : ¬ 7 ≤ k → σ.1 55 0 (k.toNat) = 0 → zX (d + 6) 158 110 [some (.inr (.inr (10, 0))), some (.inl (zW (k + 1))), x] [] (zUL (zU σ 87 0 (k.toNat) 0) 85 0 (k.toNat) 0) Q)
    (h3 : ¬ 7 ≤ k → ¬ σ.1 55 0 (k.toNat) = 0 → zX (d + 6) 158 110 [some (.inr (.inr (10, 0))), some (.inl (zW (k + 1))), x] [] (zUL (zU σ 87 0 (k.toNat) (σ.1 57 0 (k.toNat))) 85 0 (k.toNat) 0) Q) :
    zX (d + 6) 158 110 [some (.inr (.inr (10, 0))), some (.inl k), x] [] σ Q := by
  refine zX_run (n' := 112) (ls' := [some (.inr (.inr (10, 0))), some (.inl k), x]) (st' := [.inl 7, .inl k]) (σ' := σ) 2 rfl ?_
  refine zX_c3 rfl (fun a1 => ?_) (fun a1 => ?_)
  · skip
    refine zX_run (n' := 137) (ls' := [some (.inr (.inr (10, 0))), some (.inl 0), x]) (st' := []) (σ' := σ) 2 rfl ?_
    exact h1 a1
  · skip
    refine zX_run (n' := 119) (ls' := [some (.inr (.inr (10, 0))), some (.inl k), x]) (st' := [.inl k, .inr (.inr (55, 0)), .inl k, .inr (.inr (87, 0))]) (σ' := σ) 6 rfl ?_
    refine zX_ald4 (L := 7) rfl (by decide) rfl (o1 a1) ?_
    refine zX_i0 rfl (fun a2 => ?_) (fun a2 => ?_)
    · skip
      refine zX_run (n' := 127) (ls' := [some (.inr (.inr (10, 0))), some (.inl k), x]) (st' := [.inl 0, .inl k, .inr (.inr (87, 0))]) (σ' := σ) 1 rfl ?_
      refine zX_ast1 (L := 672) rfl (by decide) rfl (o2 a1 a2) ?_
      refine zX_run (n' := 132) (ls' := [some (.inr (.inr (10, 0))), some (.inl k), x]) (st' := [.inr (.inl 0), .inl k, .inr (.inr (85, 0))]) (σ' := (zU σ 87 0 (k.toNat) 0)) 4 rfl ?_
      refine zX_ast2 (L := 672) rfl (by decide) rfl (o2 a1 a2) ?_
      refine zX_run (n' := 110) (ls' := [some (.inr (.inr (10, 0))), some (.inl (zW (k + 1))), x]) (st' := []) (σ' := (zUL (zU σ 87 0 (k.toNat) 0) 85 0 (k.toNat) 0)) 2 rfl ?_
      exact h2 a1 a2
    · skip
      refine zX_run (n' := 124) (ls' := [some (.inr (.inr (10, 0))), some (.inl k), x]) (st' := [.inl k, .inr (.inr (57, 0)), .inl k, .inr (.inr (87, 0))]) (σ' := σ) 3 rfl ?_
      refine zX_ald1 (L := 7) rfl (by decide) rfl (o1 a1) ?_
      refine zX_run (n' := 127) (ls' := [some (.inr (.inr (10, 0))), some (.inl k), x]) (st' := [.inl (σ.1 57 0 (k.toNat)), .inl k, .inr (.inr (87, 0))]) (σ' := σ) 1 rfl ?_
      refine zX_ast1 (L := 672) rfl (by decide) rfl (o3 a1 a2) ?_
      refine zX_run (n' := 132) (ls' := [some (.inr (.inr (10, 0))), some (.inl k), x]) (st' := [.inr (.inl 0), .inl k, .inr (.inr (85, 0))]) (σ' := (zU σ 87 0 (k.toNat) (σ.1 57 0 (k.toNat)))) 4 rfl ?_
      refine zX_ast2 (L := 672) rfl (by decide) rfl (o3 a1 a2) ?_
      refine zX_run (n' := 110) (ls' := [some (.inr (.inr (10, 0))), some (.inl (zW (k + 1))), x]) (st' := []) (σ' := (zUL (zU σ 87 0 (k.toNat) (σ.1 57 0 (k.toNat))) 85 0 (k.toNat) 0)) 2 rfl ?_
      exact h3 a1 a2
