-- the reference: a reach in a month (wip/whole/gen/laws23.py)
-- X10_flows
theorem zb_159a {d : Nat} {σ : zS} {Q : Option zV → zS → Prop} {r : Int} {m : Int}
    (o1 : 0 ≤ r ∧ r < 7)
    (o2 : 0 ≤ m ∧ m < 96)
    (o3 : 0 ≤ σ.1 10 0 2 ∧ σ.1 10 0 2 ≤ 24)
    (o4 : (0 : Int) ≤ zW ((zW (7 * m)) + r) ∧ zW ((zW (7 * m)) + r) < (672 : Int))
    (o5 : (0 : Int) ≤ r ∧ r < (7 : Int))
    (o6 : ¬ r ≤ 0 → (0 : Int) ≤ zW ((zW ((zW (7 * m)) + r)) - 1) ∧ zW ((zW ((zW (7 * m)) + r)) - 1) < (672 : Int))
    (h1 : r ≤ 0 → zX (d + 5) 159 46 [some (.inr (.inr (10, 0))), some (.inl r), some (.inl m), some (.inl (zW ((zW (7 * m)) + r))), some (.inr (.inl (zWl ((zWl ((mSide σ r.toNat m.toNat) * (σ.1 48 0 (r.toNat)))).tdiv 1000)))), none, some (.inl 0), none, none, none, none, none, none] [] (zU (zU σ 78 0 ((zW ((zW (7 * m)) + r)).toNat) (mSide σ r.toNat m.toNat)) 79 0 ((zW ((zW (7 * m)) + r)).toNat) 0) Q)
    (h2 : ¬ r ≤ 0 → zX (d + 5) 159 46 [some (.inr (.inr (10, 0))), some (.inl r), some (.inl m), some (.inl (zW ((zW (7 * m)) + r))), some (.inr (.inl (zWl ((zWl ((zWl ((mSide σ r.toNat m.toNat) * (σ.1 48 0 (r.toNat)))).tdiv 1000)) + (σ.2 84 0 ((zW ((zW ((zW (7 * m)) + r)) - 1)).toNat)))))), none, some (.inl 0), none, none, none, none, none, none] [] (zU (zU σ 78 0 ((zW ((zW (7 * m)) + r)).toNat) (mSide σ r.toNat m.toNat)) 79 0 ((zW ((zW (7 * m)) + r)).toNat) 0) Q) :
    zM (d + 5) 159 [.inr (.inr (10, 0)), .inl r, .inl m] σ Q := by
  refine zX_run (n' := 12) (ls' := [some (.inr (.inr (10, 0))), some (.inl r), some (.inl m), some (.inl (zW ((zW (7 * m)) + r))), none, none, none, none, none, none, none, none, none]) (st' := [.inl m, .inl r, .inr (.inr (10, 0)), .inl (zW ((zW (7 * m)) + r)), .inr (.inr (78, 0))]) (σ' := σ) 12 rfl ?_
  refine zX_call rfl rfl ?_
  refine zs_157 o1 o2 o3 ?_
  · skip
    refine zX_ast1 (L := 672) rfl (by decide) rfl o4 ?_
    refine zX_run (n' := 18) (ls' := [some (.inr (.inr (10, 0))), some (.inl r), some (.inl m), some (.inl (zW ((zW (7 * m)) + r))), none, none, none, none, none, none, none, none, none]) (st' := [.inl 0, .inl (zW ((zW (7 * m)) + r)), .inr (.inr (79, 0))]) (σ' := (zU σ 78 0 ((zW ((zW (7 * m)) + r)).toNat) (mSide σ r.toNat m.toNat))) 4 rfl ?_
    refine zX_ast1 (L := 672) rfl (by decide) rfl o4 ?_
    refine zX_run (n' := 22) (ls' := [some (.inr (.inr (10, 0))), some (.inl r), some (.inl m), some (.inl (zW ((zW (7 * m)) + r))), none, none, none, none, none, none, none, none, none]) (st' := [.inl (zW ((zW (7 * m)) + r)), .inr (.inr (78, 0))]) (σ' := (zU (zU σ 78 0 ((zW ((zW (7 * m)) + r)).toNat) (mSide σ r.toNat m.toNat)) 79 0 ((zW ((zW (7 * m)) + r)).toNat) 0)) 3 rfl ?_
    refine zX_ald1v (L := 672) (val := (mSide σ r.toNat m.toNat)) rfl (by decide) rfl o4 (show ((zU σ 78 0 ((zW ((zW (7 * m)) + r)).toNat) (mSide σ r.toNat m.toNat))).1 78 0 ((zW ((zW (7 * m)) + r)).toNat) = (mSide σ r.toNat m.toNat) from zU_same) ?_
    refine zX_run (n' := 27) (ls' := [some (.inr (.inr (10, 0))), some (.inl r), some (.inl m), some (.inl (zW ((zW (7 * m)) + r))), none, none, none, none, none, none, none, none, none]) (st' := [.inl r, .inr (.inr (48, 0)), .inr (.inl (mSide σ r.toNat m.toNat))]) (σ' := (zU (zU σ 78 0 ((zW ((zW (7 * m)) + r)).toNat) (mSide σ r.toNat m.toNat)) 79 0 ((zW ((zW (7 * m)) + r)).toNat) 0)) 4 rfl ?_
    refine zX_ald1 (L := 7) rfl (by decide) rfl o5 ?_
    refine zX_run (n' := 34) (ls' := [some (.inr (.inr (10, 0))), some (.inl r), some (.inl m), some (.inl (zW ((zW (7 * m)) + r))), some (.inr (.inl (zWl ((zWl ((mSide σ r.toNat m.toNat) * (σ.1 48 0 (r.toNat)))).tdiv 1000)))), none, none, none, none, none, none, none, none]) (st' := [.inl r]) (σ' := (zU (zU σ 78 0 ((zW ((zW (7 * m)) + r)).toNat) (mSide σ r.toNat m.toNat)) 79 0 ((zW ((zW (7 * m)) + r)).toNat) 0)) 6 rfl ?_
    refine zX_i5 rfl (fun a1 => ?_) (fun a1 => ?_)
    · skip
      refine zX_run (n' := 46) (ls' := [some (.inr (.inr (10, 0))), some (.inl r), some (.inl m), some (.inl (zW ((zW (7 * m)) + r))), some (.inr (.inl (zWl ((zWl ((mSide σ r.toNat m.toNat) * (σ.1 48 0 (r.toNat)))).tdiv 1000)))), none, some (.inl 0), none, none, none, none, none, none]) (st' := []) (σ' := (zU (zU σ 78 0 ((zW ((zW (7 * m)) + r)).toNat) (mSide σ r.toNat m.toNat)) 79 0 ((zW ((zW (7 * m)) + r)).toNat) 0)) 2 rfl ?_
      exact h1 a1
    · skip
      refine zX_run (n' := 41) (ls' := [some (.inr (.inr (10, 0))), some (.inl r), some (.inl m), some (.inl (zW ((zW (7 * m)) + r))), some (.inr (.inl (zWl ((zWl ((mSide σ r.toNat m.toNat) * (σ.1 48 0 (r.toNat)))).tdiv 1000)))), none, none, none, none, none, none, none, none]) (st' := [.inl (zW ((zW ((zW (7 * m)) + r)) - 1)), .inr (.inr (84, 0)), .inr (.inl (zWl ((zWl ((mSide σ r.toNat m.toNat) * (σ.1 48 0 (r.toNat)))).tdiv 1000)))]) (σ' := (zU (zU σ 78 0 ((zW ((zW (7 * m)) + r)).toNat) (mSide σ r.toNat m.toNat)) 79 0 ((zW ((zW (7 * m)) + r)).toNat) 0)) 6 rfl ?_
      refine zX_ald2 (L := 672) rfl (by decide) rfl (o6 a1) ?_
      refine zX_run (n' := 46) (ls' := [some (.inr (.inr (10, 0))), some (.inl r), some (.inl m), some (.inl (zW ((zW (7 * m)) + r))), some (.inr (.inl (zWl ((zWl ((zWl ((mSide σ r.toNat m.toNat) * (σ.1 48 0 (r.toNat)))).tdiv 1000)) + (σ.2 84 0 ((zW ((zW ((zW (7 * m)) + r)) - 1)).toNat)))))), none, some (.inl 0), none, none, none, none, none, none]) (st' := []) (σ' := (zU (zU σ 78 0 ((zW ((zW (7 * m)) + r)).toNat) (mSide σ r.toNat m.toNat)) 79 0 ((zW ((zW (7 * m)) + r)).toNat) 0)) 4 rfl ?_
      exact h2 a1
-- X10_flows
theorem zb_159b {d : Nat} {σ : zS} {Q : Option zV → zS → Prop} {r m k s h : Int} {x7 x8 x9 x10 x11 x12 : Option zV}
    (o1 : ¬ σ.1 10 0 4 ≤ h → ¬ m ≤ 0 → (0 : Int) ≤ h ∧ h < (17 : Int))
    (o2 : ¬ σ.1 10 0 4 ≤ h → ¬ m ≤ 0 → σ.1 62 0 (h.toNat) = zW (r - 1) → (0 : Int) ≤ k ∧ k < (672 : Int))
    (o3 : ¬ σ.1 10 0 4 ≤ h → ¬ m ≤ 0 → σ.1 62 0 (h.toNat) = zW (r - 1) → (0 : Int) ≤ zW ((zW (17 * (zW (m - 1)))) + h) ∧ zW ((zW (17 * (zW (m - 1)))) + h) < (1632 : Int))
    (h1 : σ.1 10 0 4 ≤ h → zX (d + 5) 159 93 [some (.inr (.inr (10, 0))), some (.inl r), some (.inl m), some (.inl k), some (.inr (.inl s)), none, some (.inl h), x7, x8, x9, x10, x11, x12] [] σ Q)
    (h2 : ¬ σ.1 10 0 4 ≤ h → m ≤ 0 → zX (d + 5) 159 93 [some (.inr (.inr (10, 0))), some (.inl r), some (.inl m), some (.inl k), some (.inr (.inl s)), none, some (.inl h), x7, x8, x9, x10, x11, x12] [] σ Q)
    (h3 : ¬ σ.1 10 0 4 ≤ h → ¬ m ≤ 0 → σ.1 62 0 (h.toNat) = zW (r - 1) → zX (d + 5) 159 46 [some (.inr (.inr (10, 0))), some (.inl r), some (.inl m), some (.inl k), some (.inr (.inl (zWl (s + (σ.2 94 0 ((zW ((zW (17 * (zW (m - 1)))) + h)).toNat)))))), none, some (.inl (zW (h + 1))), x7, x8, x9, x10, x11, x12] [] (zU σ 79 0 (k.toNat) (zW ((σ.1 79 0 (k.toNat)) + (σ.1 93 0 ((zW ((zW (17 * (zW (m - 1)))) + h)).toNat))))) Q)
    (h4 : ¬ σ.1 10 0 4 ≤ h → ¬ m ≤ 0 → ¬ σ.1 62 0 (h.toNat) = zW (r - 1) → zX (d + 5) 159 46 [some (.inr (.inr (10, 0))), some (.inl r), some (.inl m), some (.inl k), some (.inr (.inl s)), none, some (.inl (zW (h + 1))), x7, x8, x9, x10, x11, x12] [] σ Q) :
    zX (d + 5) 159 46 [some (.inr (.inr (10, 0))), some (.inl r), some (.inl m), some (.inl k), some (.inr (.inl s)), none, some (.inl h), x7, x8, x9, x10, x11, x12] [] σ Q := by
  refine zX_run (n' := 49) (ls' := [some (.inr (.inr (10, 0))), some (.inl r), some (.inl m), some (.inl k), some (.inr (.inl s)), none, some (.inl h), x7, x8, x9, x10, x11, x12]) (st' := [.inl (σ.1 10 0 4), .inl h]) (σ' := σ) 3 rfl ?_
  refine zX_c3 rfl (fun a1 => ?_) (fun a1 => ?_)
  · skip
    exact h1 a1
  · skip
    refine zX_run (n' := 51) (ls' := [some (.inr (.inr (10, 0))), some (.inl r), some (.inl m), some (.inl k), some (.inr (.inl s)), none, some (.inl h), x7, x8, x9, x10, x11, x12]) (st' := [.inl m]) (σ' := σ) 1 rfl ?_
    refine zX_i5 rfl (fun a2 => ?_) (fun a2 => ?_)
    · skip
      exact h2 a1 a2
    · skip
      refine zX_run (n' := 55) (ls' := [some (.inr (.inr (10, 0))), some (.inl r), some (.inl m), some (.inl k), some (.inr (.inl s)), none, some (.inl h), x7, x8, x9, x10, x11, x12]) (st' := [.inl h, .inr (.inr (62, 0))]) (σ' := σ) 3 rfl ?_
      refine zX_ald1 (L := 17) rfl (by decide) rfl (o1 a1 a2) ?_
      refine zX_run (n' := 59) (ls' := [some (.inr (.inr (10, 0))), some (.inl r), some (.inl m), some (.inl k), some (.inr (.inl s)), none, some (.inl h), x7, x8, x9, x10, x11, x12]) (st' := [.inl (zW (r - 1)), .inl (σ.1 62 0 (h.toNat))]) (σ' := σ) 3 rfl ?_
      refine zX_c0 rfl (fun a3 => ?_) (fun a3 => ?_)
      · skip
        refine zX_run (n' := 65) (ls' := [some (.inr (.inr (10, 0))), some (.inl r), some (.inl m), some (.inl k), some (.inr (.inl s)), none, some (.inl h), x7, x8, x9, x10, x11, x12]) (st' := [.inl k, .inr (.inr (79, 0)), .inl k, .inr (.inr (79, 0))]) (σ' := σ) 4 rfl ?_
        refine zX_ald1 (L := 672) rfl (by decide) rfl (o2 a1 a2 a3) ?_
        refine zX_run (n' := 75) (ls' := [some (.inr (.inr (10, 0))), some (.inl r), some (.inl m), some (.inl k), some (.inr (.inl s)), none, some (.inl h), x7, x8, x9, x10, x11, x12]) (st' := [.inl (zW ((zW (17 * (zW (m - 1)))) + h)), .inr (.inr (93, 0)), .inl (σ.1 79 0 (k.toNat)), .inl k, .inr (.inr (79, 0))]) (σ' := σ) 9 rfl ?_
        refine zX_ald1 (L := 1632) rfl (by decide) rfl (o3 a1 a2 a3) ?_
        refine zX_run (n' := 77) (ls' := [some (.inr (.inr (10, 0))), some (.inl r), some (.inl m), some (.inl k), some (.inr (.inl s)), none, some (.inl h), x7, x8, x9, x10, x11, x12]) (st' := [.inl (zW ((σ.1 79 0 (k.toNat)) + (σ.1 93 0 ((zW ((zW (17 * (zW (m - 1)))) + h)).toNat)))), .inl k, .inr (.inr (79, 0))]) (σ' := σ) 1 rfl ?_
        refine zX_ast1 (L := 672) rfl (by decide) rfl (o2 a1 a2 a3) ?_
        refine zX_run (n' := 88) (ls' := [some (.inr (.inr (10, 0))), some (.inl r), some (.inl m), some (.inl k), some (.inr (.inl s)), none, some (.inl h), x7, x8, x9, x10, x11, x12]) (st' := [.inl (zW ((zW (17 * (zW (m - 1)))) + h)), .inr (.inr (94, 0)), .inr (.inl s)]) (σ' := (zU σ 79 0 (k.toNat) (zW ((σ.1 79 0 (k.toNat)) + (σ.1 93 0 ((zW ((zW (17 * (zW (m - 1)))) + h)).toNat)))))) 10 rfl ?_
        refine zX_ald2 (L := 1632) rfl (by decide) rfl (o3 a1 a2 a3) ?_
        refine zX_run (n' := 46) (ls' := [some (.inr (.inr (10, 0))), some (.inl r), some (.inl m), some (.inl k), some (.inr (.inl (zWl (s + (σ.2 94 0 ((zW ((zW (17 * (zW (m - 1)))) + h)).toNat)))))), none, some (.inl (zW (h + 1))), x7, x8, x9, x10, x11, x12]) (st' := []) (σ' := (zU σ 79 0 (k.toNat) (zW ((σ.1 79 0 (k.toNat)) + (σ.1 93 0 ((zW ((zW (17 * (zW (m - 1)))) + h)).toNat)))))) 4 rfl ?_
        exact h3 a1 a2 a3
      · skip
        refine zX_run (n' := 46) (ls' := [some (.inr (.inr (10, 0))), some (.inl r), some (.inl m), some (.inl k), some (.inr (.inl s)), none, some (.inl (zW (h + 1))), x7, x8, x9, x10, x11, x12]) (st' := []) (σ' := σ) 3 rfl ?_
        exact h4 a1 a2 a3
-- X10_flows
theorem zb_159c {d : Nat} {σ : zS} {Q : Option zV → zS → Prop} {r m k s h : Int} {x7 x8 x9 x10 x11 x12 : Option zV}
    (o1 : r ≤ 0 → (0 : Int) ≤ k ∧ k < (672 : Int))
    (o2 : ¬ r ≤ 0 → (0 : Int) ≤ zW (k - 1) ∧ zW (k - 1) < (672 : Int))
    (o3 : ¬ r ≤ 0 → (0 : Int) ≤ k ∧ k < (672 : Int))
    (h1 : r ≤ 0 → zX (d + 5) 159 127 [some (.inr (.inr (10, 0))), some (.inl r), some (.inl m), some (.inl k), some (.inr (.inl s)), none, some (.inl (zW ((zW (0 + (σ.1 78 0 (k.toNat)))) + (σ.1 79 0 (k.toNat))))), x7, x8, x9, x10, x11, x12] [] (zUL (zU σ 80 0 (k.toNat) (zW ((zW (0 + (σ.1 78 0 (k.toNat)))) + (σ.1 79 0 (k.toNat))))) 83 0 (k.toNat) s) Q)
    (h2 : ¬ r ≤ 0 → zX (d + 5) 159 127 [some (.inr (.inr (10, 0))), some (.inl r), some (.inl m), some (.inl k), some (.inr (.inl s)), none, some (.inl (zW ((zW ((σ.1 82 0 ((zW (k - 1)).toNat)) + (σ.1 78 0 (k.toNat)))) + (σ.1 79 0 (k.toNat))))), x7, x8, x9, x10, x11, x12] [] (zUL (zU σ 80 0 (k.toNat) (zW ((zW ((σ.1 82 0 ((zW (k - 1)).toNat)) + (σ.1 78 0 (k.toNat)))) + (σ.1 79 0 (k.toNat))))) 83 0 (k.toNat) s) Q) :
    zX (d + 5) 159 93 [some (.inr (.inr (10, 0))), some (.inl r), some (.inl m), some (.inl k), some (.inr (.inl s)), none, some (.inl h), x7, x8, x9, x10, x11, x12] [] σ Q := by
  refine zX_run (n' := 97) (ls' := [some (.inr (.inr (10, 0))), some (.inl r), some (.inl m), some (.inl k), some (.inr (.inl s)), none, some (.inl h), x7, x8, x9, x10, x11, x12]) (st' := [.inl r, .inl k, .inr (.inr (80, 0))]) (σ' := σ) 4 rfl ?_
  refine zX_i5 rfl (fun a1 => ?_) (fun a1 => ?_)
  · skip
    refine zX_run (n' := 109) (ls' := [some (.inr (.inr (10, 0))), some (.inl r), some (.inl m), some (.inl k), some (.inr (.inl s)), none, some (.inl h), x7, x8, x9, x10, x11, x12]) (st' := [.inl k, .inr (.inr (78, 0)), .inl 0, .inl k, .inr (.inr (80, 0))]) (σ' := σ) 4 rfl ?_
    refine zX_ald1 (L := 672) rfl (by decide) rfl (o1 a1) ?_
    refine zX_run (n' := 114) (ls' := [some (.inr (.inr (10, 0))), some (.inl r), some (.inl m), some (.inl k), some (.inr (.inl s)), none, some (.inl h), x7, x8, x9, x10, x11, x12]) (st' := [.inl k, .inr (.inr (79, 0)), .inl (zW (0 + (σ.1 78 0 (k.toNat)))), .inl k, .inr (.inr (80, 0))]) (σ' := σ) 4 rfl ?_
    refine zX_ald1 (L := 672) rfl (by decide) rfl (o1 a1) ?_
    refine zX_run (n' := 116) (ls' := [some (.inr (.inr (10, 0))), some (.inl r), some (.inl m), some (.inl k), some (.inr (.inl s)), none, some (.inl h), x7, x8, x9, x10, x11, x12]) (st' := [.inl (zW ((zW (0 + (σ.1 78 0 (k.toNat)))) + (σ.1 79 0 (k.toNat)))), .inl k, .inr (.inr (80, 0))]) (σ' := σ) 1 rfl ?_
    refine zX_ast1 (L := 672) rfl (by decide) rfl (o1 a1) ?_
    refine zX_run (n' := 121) (ls' := [some (.inr (.inr (10, 0))), some (.inl r), some (.inl m), some (.inl k), some (.inr (.inl s)), none, some (.inl h), x7, x8, x9, x10, x11, x12]) (st' := [.inr (.inl s), .inl k, .inr (.inr (83, 0))]) (σ' := (zU σ 80 0 (k.toNat) (zW ((zW (0 + (σ.1 78 0 (k.toNat)))) + (σ.1 79 0 (k.toNat)))))) 4 rfl ?_
    refine zX_ast2 (L := 672) rfl (by decide) rfl (o1 a1) ?_
    refine zX_run (n' := 125) (ls' := [some (.inr (.inr (10, 0))), some (.inl r), some (.inl m), some (.inl k), some (.inr (.inl s)), none, some (.inl h), x7, x8, x9, x10, x11, x12]) (st' := [.inl k, .inr (.inr (80, 0))]) (σ' := (zUL (zU σ 80 0 (k.toNat) (zW ((zW (0 + (σ.1 78 0 (k.toNat)))) + (σ.1 79 0 (k.toNat))))) 83 0 (k.toNat) s)) 3 rfl ?_
    refine zX_ald1v (L := 672) (val := (zW ((zW (0 + (σ.1 78 0 (k.toNat)))) + (σ.1 79 0 (k.toNat))))) rfl (by decide) rfl (o1 a1) (show ((zU σ 80 0 (k.toNat) (zW ((zW (0 + (σ.1 78 0 (k.toNat)))) + (σ.1 79 0 (k.toNat)))))).1 80 0 (k.toNat) = (zW ((zW (0 + (σ.1 78 0 (k.toNat)))) + (σ.1 79 0 (k.toNat)))) from zU_same) ?_
    refine zX_run (n' := 127) (ls' := [some (.inr (.inr (10, 0))), some (.inl r), some (.inl m), some (.inl k), some (.inr (.inl s)), none, some (.inl (zW ((zW (0 + (σ.1 78 0 (k.toNat)))) + (σ.1 79 0 (k.toNat))))), x7, x8, x9, x10, x11, x12]) (st' := []) (σ' := (zUL (zU σ 80 0 (k.toNat) (zW ((zW (0 + (σ.1 78 0 (k.toNat)))) + (σ.1 79 0 (k.toNat))))) 83 0 (k.toNat) s)) 1 rfl ?_
    exact h1 a1
  · skip
    refine zX_run (n' := 103) (ls' := [some (.inr (.inr (10, 0))), some (.inl r), some (.inl m), some (.inl k), some (.inr (.inl s)), none, some (.inl h), x7, x8, x9, x10, x11, x12]) (st' := [.inl (zW (k - 1)), .inr (.inr (82, 0)), .inl k, .inr (.inr (80, 0))]) (σ' := σ) 5 rfl ?_
    refine zX_ald1 (L := 672) rfl (by decide) rfl (o2 a1) ?_
    refine zX_run (n' := 109) (ls' := [some (.inr (.inr (10, 0))), some (.inl r), some (.inl m), some (.inl k), some (.inr (.inl s)), none, some (.inl h), x7, x8, x9, x10, x11, x12]) (st' := [.inl k, .inr (.inr (78, 0)), .inl (σ.1 82 0 ((zW (k - 1)).toNat)), .inl k, .inr (.inr (80, 0))]) (σ' := σ) 4 rfl ?_
    refine zX_ald1 (L := 672) rfl (by decide) rfl (o3 a1) ?_
    refine zX_run (n' := 114) (ls' := [some (.inr (.inr (10, 0))), some (.inl r), some (.inl m), some (.inl k), some (.inr (.inl s)), none, some (.inl h), x7, x8, x9, x10, x11, x12]) (st' := [.inl k, .inr (.inr (79, 0)), .inl (zW ((σ.1 82 0 ((zW (k - 1)).toNat)) + (σ.1 78 0 (k.toNat)))), .inl k, .inr (.inr (80, 0))]) (σ' := σ) 4 rfl ?_
    refine zX_ald1 (L := 672) rfl (by decide) rfl (o3 a1) ?_
    refine zX_run (n' := 116) (ls' := [some (.inr (.inr (10, 0))), some (.inl r), some (.inl m), some (.inl k), some (.inr (.inl s)), none, some (.inl h), x7, x8, x9, x10, x11, x12]) (st' := [.inl (zW ((zW ((σ.1 82 0 ((zW (k - 1)).toNat)) + (σ.1 78 0 (k.toNat)))) + (σ.1 79 0 (k.toNat)))), .inl k, .inr (.inr (80, 0))]) (σ' := σ) 1 rfl ?_
    refine zX_ast1 (L := 672) rfl (by decide) rfl (o3 a1) ?_
    refine zX_run (n' := 121) (ls' := [some (.inr (.inr (10, 0))), some (.inl r), some (.inl m), some (.inl k), some (.inr (.inl s)), none, some (.inl h), x7, x8, x9, x10, x11, x12]) (st' := [.inr (.inl s), .inl k, .inr (.inr (83, 0))]) (σ' := (zU σ 80 0 (k.toNat) (zW ((zW ((σ.1 82 0 ((zW (k - 1)).toNat)) + (σ.1 78 0 (k.toNat)))) + (σ.1 79 0 (k.toNat)))))) 4 rfl ?_
    refine zX_ast2 (L := 672) rfl (by decide) rfl (o3 a1) ?_
    refine zX_run (n' := 125) (ls' := [some (.inr (.inr (10, 0))), some (.inl r), some (.inl m), some (.inl k), some (.inr (.inl s)), none, some (.inl h), x7, x8, x9, x10, x11, x12]) (st' := [.inl k, .inr (.inr (80, 0))]) (σ' := (zUL (zU σ 80 0 (k.toNat) (zW ((zW ((σ.1 82 0 ((zW (k - 1)).toNat)) + (σ.1 78 0 (k.toNat)))) + (σ.1 79 0 (k.toNat))))) 83 0 (k.toNat) s)) 3 rfl ?_
    refine zX_ald1v (L := 672) (val := (zW ((zW ((σ.1 82 0 ((zW (k - 1)).toNat)) + (σ.1 78 0 (k.toNat)))) + (σ.1 79 0 (k.toNat))))) rfl (by decide) rfl (o3 a1) (show ((zU σ 80 0 (k.toNat) (zW ((zW ((σ.1 82 0 ((zW (k - 1)).toNat)) + (σ.1 78 0 (k.toNat)))) + (σ.1 79 0 (k.toNat)))))).1 80 0 (k.toNat) = (zW ((zW ((σ.1 82 0 ((zW (k - 1)).toNat)) + (σ.1 78 0 (k.toNat)))) + (σ.1 79 0 (k.toNat)))) from zU_same) ?_
    refine zX_run (n' := 127) (ls' := [some (.inr (.inr (10, 0))), some (.inl r), some (.inl m), some (.inl k), some (.inr (.inl s)), none, some (.inl (zW ((zW ((σ.1 82 0 ((zW (k - 1)).toNat)) + (σ.1 78 0 (k.toNat)))) + (σ.1 79 0 (k.toNat))))), x7, x8, x9, x10, x11, x12]) (st' := []) (σ' := (zUL (zU σ 80 0 (k.toNat) (zW ((zW ((σ.1 82 0 ((zW (k - 1)).toNat)) + (σ.1 78 0 (k.toNat)))) + (σ.1 79 0 (k.toNat))))) 83 0 (k.toNat) s)) 1 rfl ?_
    exact h2 a1
-- X10_flows
theorem zb_159d {d : Nat} {σ : zS} {Q : Option zV → zS → Prop} {r m k s w : Int} {x7 x8 x9 x10 x11 x12 : Option zV}
    (o1 : (0 : Int) ≤ r ∧ r < (7 : Int))
    (o2 : σ.1 55 0 (r.toNat) = 0 → (0 : Int) ≤ k ∧ k < (672 : Int))
    (o3 : ¬ σ.1 55 0 (r.toNat) = 0 → (0 : Int) ≤ k ∧ k < (672 : Int))
    (h1 : σ.1 55 0 (r.toNat) = 0 → zX (d + 5) 159 266 [some (.inr (.inr (10, 0))), some (.inl r), some (.inl m), some (.inl k), some (.inr (.inl s)), none, some (.inl w), some (.inl 0), x8, x9, x10, x11, x12] [] (zU σ 81 0 (k.toNat) w) Q)
    (h2 : ¬ σ.1 55 0 (r.toNat) = 0 → zX (d + 5) 159 171 [some (.inr (.inr (10, 0))), some (.inl r), some (.inl m), some (.inl k), some (.inr (.inl s)), none, some (.inl w), x7, x8, x9, x10, x11, x12] [.inl (zW ((zW ((σ.1 87 0 (k.toNat)) - (zW ((zW ((σ.1 87 0 (k.toNat)) * (σ.1 58 0 (r.toNat)))).tdiv 1000)))) + (σ.1 80 0 (k.toNat))))] (zU (zU σ 88 0 (k.toNat) (zW ((zW ((σ.1 87 0 (k.toNat)) * (σ.1 58 0 (r.toNat)))).tdiv 1000))) 90 0 (k.toNat) (zW ((σ.1 87 0 (k.toNat)).tdiv 100))) Q) :
    zX (d + 5) 159 127 [some (.inr (.inr (10, 0))), some (.inl r), some (.inl m), some (.inl k), some (.inr (.inl s)), none, some (.inl w), x7, x8, x9, x10, x11, x12] [] σ Q := by
  refine zX_run (n' := 130) (ls' := [some (.inr (.inr (10, 0))), some (.inl r), some (.inl m), some (.inl k), some (.inr (.inl s)), none, some (.inl w), x7, x8, x9, x10, x11, x12]) (st' := [.inl r, .inr (.inr (55, 0))]) (σ' := σ) 3 rfl ?_
  refine zX_ald4 (L := 7) rfl (by decide) rfl o1 ?_
  refine zX_i0 rfl (fun a1 => ?_) (fun a1 => ?_)
  · skip
    refine zX_run (n' := 263) (ls' := [some (.inr (.inr (10, 0))), some (.inl r), some (.inl m), some (.inl k), some (.inr (.inl s)), none, some (.inl w), x7, x8, x9, x10, x11, x12]) (st' := [.inl w, .inl k, .inr (.inr (81, 0))]) (σ' := σ) 4 rfl ?_
    refine zX_ast1 (L := 672) rfl (by decide) rfl (o2 a1) ?_
    refine zX_run (n' := 266) (ls' := [some (.inr (.inr (10, 0))), some (.inl r), some (.inl m), some (.inl k), some (.inr (.inl s)), none, some (.inl w), some (.inl 0), x8, x9, x10, x11, x12]) (st' := []) (σ' := (zU σ 81 0 (k.toNat) w)) 2 rfl ?_
    exact h1 a1
  · skip
    refine zX_run (n' := 138) (ls' := [some (.inr (.inr (10, 0))), some (.inl r), some (.inl m), some (.inl k), some (.inr (.inl s)), none, some (.inl w), x7, x8, x9, x10, x11, x12]) (st' := [.inl k, .inr (.inr (87, 0)), .inl k, .inr (.inr (88, 0))]) (σ' := σ) 6 rfl ?_
    refine zX_ald1 (L := 672) rfl (by decide) rfl (o3 a1) ?_
    refine zX_run (n' := 142) (ls' := [some (.inr (.inr (10, 0))), some (.inl r), some (.inl m), some (.inl k), some (.inr (.inl s)), none, some (.inl w), x7, x8, x9, x10, x11, x12]) (st' := [.inl r, .inr (.inr (58, 0)), .inl (σ.1 87 0 (k.toNat)), .inl k, .inr (.inr (88, 0))]) (σ' := σ) 3 rfl ?_
    refine zX_ald1 (L := 7) rfl (by decide) rfl o1 ?_
    refine zX_run (n' := 146) (ls' := [some (.inr (.inr (10, 0))), some (.inl r), some (.inl m), some (.inl k), some (.inr (.inl s)), none, some (.inl w), x7, x8, x9, x10, x11, x12]) (st' := [.inl (zW ((zW ((σ.1 87 0 (k.toNat)) * (σ.1 58 0 (r.toNat)))).tdiv 1000)), .inl k, .inr (.inr (88, 0))]) (σ' := σ) 3 rfl ?_
    refine zX_ast1 (L := 672) rfl (by decide) rfl (o3 a1) ?_
    refine zX_run (n' := 153) (ls' := [some (.inr (.inr (10, 0))), some (.inl r), some (.inl m), some (.inl k), some (.inr (.inl s)), none, some (.inl w), x7, x8, x9, x10, x11, x12]) (st' := [.inl k, .inr (.inr (87, 0)), .inl k, .inr (.inr (90, 0))]) (σ' := (zU σ 88 0 (k.toNat) (zW ((zW ((σ.1 87 0 (k.toNat)) * (σ.1 58 0 (r.toNat)))).tdiv 1000)))) 6 rfl ?_
    refine zX_ald1 (L := 672) rfl (by decide) rfl (o3 a1) ?_
    refine zX_run (n' := 156) (ls' := [some (.inr (.inr (10, 0))), some (.inl r), some (.inl m), some (.inl k), some (.inr (.inl s)), none, some (.inl w), x7, x8, x9, x10, x11, x12]) (st' := [.inl (zW ((σ.1 87 0 (k.toNat)).tdiv 100)), .inl k, .inr (.inr (90, 0))]) (σ' := (zU σ 88 0 (k.toNat) (zW ((zW ((σ.1 87 0 (k.toNat)) * (σ.1 58 0 (r.toNat)))).tdiv 1000)))) 2 rfl ?_
    refine zX_ast1 (L := 672) rfl (by decide) rfl (o3 a1) ?_
    refine zX_run (n' := 160) (ls' := [some (.inr (.inr (10, 0))), some (.inl r), some (.inl m), some (.inl k), some (.inr (.inl s)), none, some (.inl w), x7, x8, x9, x10, x11, x12]) (st' := [.inl k, .inr (.inr (87, 0))]) (σ' := (zU (zU σ 88 0 (k.toNat) (zW ((zW ((σ.1 87 0 (k.toNat)) * (σ.1 58 0 (r.toNat)))).tdiv 1000))) 90 0 (k.toNat) (zW ((σ.1 87 0 (k.toNat)).tdiv 100)))) 3 rfl ?_
    refine zX_ald1 (L := 672) rfl (by decide) rfl (o3 a1) ?_
    refine zX_run (n' := 164) (ls' := [some (.inr (.inr (10, 0))), some (.inl r), some (.inl m), some (.inl k), some (.inr (.inl s)), none, some (.inl w), x7, x8, x9, x10, x11, x12]) (st' := [.inl k, .inr (.inr (88, 0)), .inl (σ.1 87 0 (k.toNat))]) (σ' := (zU (zU σ 88 0 (k.toNat) (zW ((zW ((σ.1 87 0 (k.toNat)) * (σ.1 58 0 (r.toNat)))).tdiv 1000))) 90 0 (k.toNat) (zW ((σ.1 87 0 (k.toNat)).tdiv 100)))) 3 rfl ?_
    refine zX_ald1v (L := 672) (val := (zW ((zW ((σ.1 87 0 (k.toNat)) * (σ.1 58 0 (r.toNat)))).tdiv 1000))) rfl (by decide) rfl (o3 a1) (show ((zU σ 88 0 (k.toNat) (zW ((zW ((σ.1 87 0 (k.toNat)) * (σ.1 58 0 (r.toNat)))).tdiv 1000)))).1 88 0 (k.toNat) = (zW ((zW ((σ.1 87 0 (k.toNat)) * (σ.1 58 0 (r.toNat)))).tdiv 1000)) from zU_same) ?_
    refine zX_run (n' := 169) (ls' := [some (.inr (.inr (10, 0))), some (.inl r), some (.inl m), some (.inl k), some (.inr (.inl s)), none, some (.inl w), x7, x8, x9, x10, x11, x12]) (st' := [.inl k, .inr (.inr (80, 0)), .inl (zW ((σ.1 87 0 (k.toNat)) - (zW ((zW ((σ.1 87 0 (k.toNat)) * (σ.1 58 0 (r.toNat)))).tdiv 1000))))]) (σ' := (zU (zU σ 88 0 (k.toNat) (zW ((zW ((σ.1 87 0 (k.toNat)) * (σ.1 58 0 (r.toNat)))).tdiv 1000))) 90 0 (k.toNat) (zW ((σ.1 87 0 (k.toNat)).tdiv 100)))) 4 rfl ?_
    refine zX_ald1 (L := 672) rfl (by decide) rfl (o3 a1) ?_
    refine zX_run (n' := 171) (ls' := [some (.inr (.inr (10, 0))), some (.inl r), some (.inl m), some (.inl k), some (.inr (.inl s)), none, some (.inl w), x7, x8, x9, x10, x11, x12]) (st' := [.inl (zW ((zW ((σ.1 87 0 (k.toNat)) - (zW ((zW ((σ.1 87 0 (k.toNat)) * (σ.1 58 0 (r.toNat)))).tdiv 1000)))) + (σ.1 80 0 (k.toNat))))]) (σ' := (zU (zU σ 88 0 (k.toNat) (zW ((zW ((σ.1 87 0 (k.toNat)) * (σ.1 58 0 (r.toNat)))).tdiv 1000))) 90 0 (k.toNat) (zW ((σ.1 87 0 (k.toNat)).tdiv 100)))) 1 rfl ?_
    exact h2 a1
-- X10_flows
theorem zb_159e {d : Nat} {σ : zS} {Q : Option zV → zS → Prop} {r m k s w v : Int} {x7 x8 x9 x10 x11 x12 : Option zV}
    (o1 : (0 : Int) ≤ k ∧ k < (672 : Int))
    (o2 : (0 : Int) ≤ r ∧ r < (7 : Int))
    (h1 : v ≤ σ.1 59 0 (r.toNat) → zW (v - v) ≤ σ.1 56 0 (r.toNat) → zX (d + 5) 159 207 [some (.inr (.inr (10, 0))), some (.inl r), some (.inl m), some (.inl k), some (.inr (.inl s)), none, some (.inl w), some (.inl v), some (.inr (.inl (zWl ((σ.2 85 0 (k.toNat)) + s)))), none, some (.inl v), x11, x12] [] σ Q)
    (h2 : v ≤ σ.1 59 0 (r.toNat) → ¬ zW (v - v) ≤ σ.1 56 0 (r.toNat) → zX (d + 5) 159 207 [some (.inr (.inr (10, 0))), some (.inl r), some (.inl m), some (.inl k), some (.inr (.inl s)), none, some (.inl w), some (.inl v), some (.inr (.inl (zWl ((σ.2 85 0 (k.toNat)) + s)))), none, some (.inl (zW (v - (σ.1 56 0 (r.toNat))))), x11, x12] [] σ Q)
    (h3 : ¬ v ≤ σ.1 59 0 (r.toNat) → zW (v - (σ.1 59 0 (r.toNat))) ≤ σ.1 56 0 (r.toNat) → zX (d + 5) 159 207 [some (.inr (.inr (10, 0))), some (.inl r), some (.inl m), some (.inl k), some (.inr (.inl s)), none, some (.inl w), some (.inl v), some (.inr (.inl (zWl ((σ.2 85 0 (k.toNat)) + s)))), none, some (.inl (σ.1 59 0 (r.toNat))), x11, x12] [] σ Q)
    (h4 : ¬ v ≤ σ.1 59 0 (r.toNat) → ¬ zW (v - (σ.1 59 0 (r.toNat))) ≤ σ.1 56 0 (r.toNat) → zX (d + 5) 159 207 [some (.inr (.inr (10, 0))), some (.inl r), some (.inl m), some (.inl k), some (.inr (.inl s)), none, some (.inl w), some (.inl v), some (.inr (.inl (zWl ((σ.2 85 0 (k.toNat)) + s)))), none, some (.inl (zW (v - (σ.1 56 0 (r.toNat))))), x11, x12] [] σ Q) :
    zX (d + 5) 159 171 [some (.inr (.inr (10, 0))), some (.inl r), some (.inl m), some (.inl k), some (.inr (.inl s)), none, some (.inl w), x7, x8, x9, x10, x11, x12] [.inl v] σ Q := by
  refine zX_run (n' := 175) (ls' := [some (.inr (.inr (10, 0))), some (.inl r), some (.inl m), some (.inl k), some (.inr (.inl s)), none, some (.inl w), some (.inl v), x8, x9, x10, x11, x12]) (st' := [.inl k, .inr (.inr (85, 0))]) (σ' := σ) 4 rfl ?_
  refine zX_ald2 (L := 672) rfl (by decide) rfl o1 ?_
  refine zX_run (n' := 182) (ls' := [some (.inr (.inr (10, 0))), some (.inl r), some (.inl m), some (.inl k), some (.inr (.inl s)), none, some (.inl w), some (.inl v), some (.inr (.inl (zWl ((σ.2 85 0 (k.toNat)) + s)))), none, x10, x11, x12]) (st' := [.inl r, .inr (.inr (59, 0))]) (σ' := σ) 6 rfl ?_
  refine zX_ald1 (L := 7) rfl (by decide) rfl o2 ?_
  refine zX_run (n' := 184) (ls' := [some (.inr (.inr (10, 0))), some (.inl r), some (.inl m), some (.inl k), some (.inr (.inl s)), none, some (.inl w), some (.inl v), some (.inr (.inl (zWl ((σ.2 85 0 (k.toNat)) + s)))), none, x10, x11, x12]) (st' := [.inl v, .inl (σ.1 59 0 (r.toNat))]) (σ' := σ) 1 rfl ?_
  refine zX_c3 rfl (fun a1 => ?_) (fun a1 => ?_)
  · skip
    refine zX_run (n' := 198) (ls' := [some (.inr (.inr (10, 0))), some (.inl r), some (.inl m), some (.inl k), some (.inr (.inl s)), none, some (.inl w), some (.inl v), some (.inr (.inl (zWl ((σ.2 85 0 (k.toNat)) + s)))), none, some (.inl v), x11, x12]) (st' := [.inl r, .inr (.inr (56, 0)), .inl (zW (v - v))]) (σ' := σ) 8 rfl ?_
    refine zX_ald1 (L := 7) rfl (by decide) rfl o2 ?_
    refine zX_c5 rfl (fun a2 => ?_) (fun a2 => ?_)
    · skip
      exact h1 a1 a2
    · skip
      refine zX_run (n' := 204) (ls' := [some (.inr (.inr (10, 0))), some (.inl r), some (.inl m), some (.inl k), some (.inr (.inl s)), none, some (.inl w), some (.inl v), some (.inr (.inl (zWl ((σ.2 85 0 (k.toNat)) + s)))), none, some (.inl v), x11, x12]) (st' := [.inl r, .inr (.inr (56, 0)), .inl v]) (σ' := σ) 4 rfl ?_
      refine zX_ald1 (L := 7) rfl (by decide) rfl o2 ?_
      refine zX_run (n' := 207) (ls' := [some (.inr (.inr (10, 0))), some (.inl r), some (.inl m), some (.inl k), some (.inr (.inl s)), none, some (.inl w), some (.inl v), some (.inr (.inl (zWl ((σ.2 85 0 (k.toNat)) + s)))), none, some (.inl (zW (v - (σ.1 56 0 (r.toNat))))), x11, x12]) (st' := []) (σ' := σ) 2 rfl ?_
      exact h2 a1 a2
  · skip
    refine zX_run (n' := 188) (ls' := [some (.inr (.inr (10, 0))), some (.inl r), some (.inl m), some (.inl k), some (.inr (.inl s)), none, some (.inl w), some (.inl v), some (.inr (.inl (zWl ((σ.2 85 0 (k.toNat)) + s)))), none, x10, x11, x12]) (st' := [.inl r, .inr (.inr (59, 0))]) (σ' := σ) 3 rfl ?_
    refine zX_ald1 (L := 7) rfl (by decide) rfl o2 ?_
    refine zX_run (n' := 198) (ls' := [some (.inr (.inr (10, 0))), some (.inl r), some (.inl m), some (.inl k), some (.inr (.inl s)), none, some (.inl w), some (.inl v), some (.inr (.inl (zWl ((σ.2 85 0 (k.toNat)) + s)))), none, some (.inl (σ.1 59 0 (r.toNat))), x11, x12]) (st' := [.inl r, .inr (.inr (56, 0)), .inl (zW (v - (σ.1 59 0 (r.toNat))))]) (σ' := σ) 8 rfl ?_
    refine zX_ald1 (L := 7) rfl (by decide) rfl o2 ?_
    refine zX_c5 rfl (fun a3 => ?_) (fun a3 => ?_)
    · skip
      exact h3 a1 a3
    · skip
      refine zX_run (n' := 204) (ls' := [some (.inr (.inr (10, 0))), some (.inl r), some (.inl m), some (.inl k), some (.inr (.inl s)), none, some (.inl w), some (.inl v), some (.inr (.inl (zWl ((σ.2 85 0 (k.toNat)) + s)))), none, some (.inl (σ.1 59 0 (r.toNat))), x11, x12]) (st' := [.inl r, .inr (.inr (56, 0)), .inl v]) (σ' := σ) 4 rfl ?_
      refine zX_ald1 (L := 7) rfl (by decide) rfl o2 ?_
      refine zX_run (n' := 207) (ls' := [some (.inr (.inr (10, 0))), some (.inl r), some (.inl m), some (.inl k), some (.inr (.inl s)), none, some (.inl w), some (.inl v), some (.inr (.inl (zWl ((σ.2 85 0 (k.toNat)) + s)))), none, some (.inl (zW (v - (σ.1 56 0 (r.toNat))))), x11, x12]) (st' := []) (σ' := σ) 2 rfl ?_
      exact h4 a1 a3
-- X10_flows
theorem zb_159f {d : Nat} {σ : zS} {Q : Option zV → zS → Prop} {r m k s w v a o : Int} {x11 x12 : Option zV}
    (o1 : (0 : Int) ≤ k ∧ k < (672 : Int))
    (o2 : ¬ v = 0 → v ≠ 0)
    (o3 : ¬ v = 0 → ¬ 95 ≤ m → (0 : Int) ≤ zW (k + 7) ∧ zW (k + 7) < (672 : Int))
    (o4 : v = 0 → ¬ 95 ≤ m → (0 : Int) ≤ zW (k + 7) ∧ zW (k + 7) < (672 : Int))
    (h1 : ¬ v = 0 → 95 ≤ m → zX (d + 5) 159 266 [some (.inr (.inr (10, 0))), some (.inl r), some (.inl m), some (.inl k), some (.inr (.inl (zWl ((zWl (a * o)).tdiv v)))), none, some (.inl o), some (.inl 0), some (.inr (.inl a)), none, some (.inl o), x11, x12] [] (zU (zUL (zU σ 89 0 (k.toNat) o) 86 0 (k.toNat) (zWl ((σ.1 90 0 (k.toNat)) * o))) 81 0 (k.toNat) o) Q)
    (h2 : ¬ v = 0 → ¬ 95 ≤ m → zX (d + 5) 159 266 [some (.inr (.inr (10, 0))), some (.inl r), some (.inl m), some (.inl k), some (.inr (.inl (zWl ((zWl (a * o)).tdiv v)))), none, some (.inl o), some (.inl 0), some (.inr (.inl a)), none, some (.inl o), x11, x12] [] (zU (zUL (zU (zUL (zU σ 89 0 (k.toNat) o) 86 0 (k.toNat) (zWl ((σ.1 90 0 (k.toNat)) * o))) 87 0 ((zW (k + 7)).toNat) (zW (v - o))) 85 0 ((zW (k + 7)).toNat) (zWl (a - (zWl ((zWl (a * o)).tdiv v))))) 81 0 (k.toNat) o) Q)
    (h3 : v = 0 → 95 ≤ m → zX (d + 5) 159 266 [some (.inr (.inr (10, 0))), some (.inl r), some (.inl m), some (.inl k), some (.inr (.inl 0)), none, some (.inl o), some (.inl 0), some (.inr (.inl a)), none, some (.inl o), x11, x12] [] (zU (zUL (zU σ 89 0 (k.toNat) o) 86 0 (k.toNat) (zWl ((σ.1 90 0 (k.toNat)) * o))) 81 0 (k.toNat) o) Q)
    (h4 : v = 0 → ¬ 95 ≤ m → zX (d + 5) 159 266 [some (.inr (.inr (10, 0))), some (.inl r), some (.inl m), some (.inl k), some (.inr (.inl 0)), none, some (.inl o), some (.inl 0), some (.inr (.inl a)), none, some (.inl o), x11, x12] [] (zU (zUL (zU (zUL (zU σ 89 0 (k.toNat) o) 86 0 (k.toNat) (zWl ((σ.1 90 0 (k.toNat)) * o))) 87 0 ((zW (k + 7)).toNat) (zW (v - o))) 85 0 ((zW (k + 7)).toNat) (zWl (a - 0))) 81 0 (k.toNat) o) Q) :
    zX (d + 5) 159 207 [some (.inr (.inr (10, 0))), some (.inl r), some (.inl m), some (.inl k), some (.inr (.inl s)), none, some (.inl w), some (.inl v), some (.inr (.inl a)), none, some (.inl o), x11, x12] [] σ Q := by
  refine zX_run (n' := 211) (ls' := [some (.inr (.inr (10, 0))), some (.inl r), some (.inl m), some (.inl k), some (.inr (.inl s)), none, some (.inl w), some (.inl v), some (.inr (.inl a)), none, some (.inl o), x11, x12]) (st' := [.inl o, .inl k, .inr (.inr (89, 0))]) (σ' := σ) 4 rfl ?_
  refine zX_ast1 (L := 672) rfl (by decide) rfl o1 ?_
  refine zX_run (n' := 213) (ls' := [some (.inr (.inr (10, 0))), some (.inl r), some (.inl m), some (.inl k), some (.inr (.inl s)), none, some (.inl w), some (.inl v), some (.inr (.inl a)), none, some (.inl o), x11, x12]) (st' := [.inl v]) (σ' := (zU σ 89 0 (k.toNat) o)) 1 rfl ?_
  refine zX_i1 rfl (fun a1 => ?_) (fun a1 => ?_)
  · skip
    refine zX_run (n' := 222) (ls' := [some (.inr (.inr (10, 0))), some (.inl r), some (.inl m), some (.inl k), some (.inr (.inl s)), none, some (.inl w), some (.inl v), some (.inr (.inl a)), none, some (.inl o), x11, x12]) (st' := [.inr (.inl v), .inr (.inl (zWl (a * o)))]) (σ' := (zU σ 89 0 (k.toNat) o)) 6 rfl ?_
    refine zX_ldiv rfl (o2 a1) ?_
    refine zX_run (n' := 230) (ls' := [some (.inr (.inr (10, 0))), some (.inl r), some (.inl m), some (.inl k), some (.inr (.inl (zWl ((zWl (a * o)).tdiv v)))), none, some (.inl w), some (.inl v), some (.inr (.inl a)), none, some (.inl o), x11, x12]) (st' := [.inl k, .inr (.inr (90, 0)), .inl k, .inr (.inr (86, 0))]) (σ' := (zU σ 89 0 (k.toNat) o)) 7 rfl ?_
    refine zX_ald1 (L := 672) rfl (by decide) rfl o1 ?_
    refine zX_run (n' := 235) (ls' := [some (.inr (.inr (10, 0))), some (.inl r), some (.inl m), some (.inl k), some (.inr (.inl (zWl ((zWl (a * o)).tdiv v)))), none, some (.inl w), some (.inl v), some (.inr (.inl a)), none, some (.inl o), x11, x12]) (st' := [.inr (.inl (zWl ((σ.1 90 0 (k.toNat)) * o))), .inl k, .inr (.inr (86, 0))]) (σ' := (zU σ 89 0 (k.toNat) o)) 4 rfl ?_
    refine zX_ast2 (L := 672) rfl (by decide) rfl o1 ?_
    refine zX_run (n' := 238) (ls' := [some (.inr (.inr (10, 0))), some (.inl r), some (.inl m), some (.inl k), some (.inr (.inl (zWl ((zWl (a * o)).tdiv v)))), none, some (.inl w), some (.inl v), some (.inr (.inl a)), none, some (.inl o), x11, x12]) (st' := [.inl 95, .inl m]) (σ' := (zUL (zU σ 89 0 (k.toNat) o) 86 0 (k.toNat) (zWl ((σ.1 90 0 (k.toNat)) * o)))) 2 rfl ?_
    refine zX_c3 rfl (fun a2 => ?_) (fun a2 => ?_)
    · skip
      refine zX_run (n' := 263) (ls' := [some (.inr (.inr (10, 0))), some (.inl r), some (.inl m), some (.inl k), some (.inr (.inl (zWl ((zWl (a * o)).tdiv v)))), none, some (.inl o), some (.inl v), some (.inr (.inl a)), none, some (.inl o), x11, x12]) (st' := [.inl o, .inl k, .inr (.inr (81, 0))]) (σ' := (zUL (zU σ 89 0 (k.toNat) o) 86 0 (k.toNat) (zWl ((σ.1 90 0 (k.toNat)) * o)))) 6 rfl ?_
      refine zX_ast1 (L := 672) rfl (by decide) rfl o1 ?_
      refine zX_run (n' := 266) (ls' := [some (.inr (.inr (10, 0))), some (.inl r), some (.inl m), some (.inl k), some (.inr (.inl (zWl ((zWl (a * o)).tdiv v)))), none, some (.inl o), some (.inl 0), some (.inr (.inl a)), none, some (.inl o), x11, x12]) (st' := []) (σ' := (zU (zUL (zU σ 89 0 (k.toNat) o) 86 0 (k.toNat) (zWl ((σ.1 90 0 (k.toNat)) * o))) 81 0 (k.toNat) o)) 2 rfl ?_
      exact h1 a1 a2
    · skip
      refine zX_run (n' := 247) (ls' := [some (.inr (.inr (10, 0))), some (.inl r), some (.inl m), some (.inl k), some (.inr (.inl (zWl ((zWl (a * o)).tdiv v)))), none, some (.inl w), some (.inl v), some (.inr (.inl a)), none, some (.inl o), x11, x12]) (st' := [.inl (zW (v - o)), .inl (zW (k + 7)), .inr (.inr (87, 0))]) (σ' := (zUL (zU σ 89 0 (k.toNat) o) 86 0 (k.toNat) (zWl ((σ.1 90 0 (k.toNat)) * o)))) 8 rfl ?_
      refine zX_ast1 (L := 672) rfl (by decide) rfl (o3 a1 a2) ?_
      refine zX_run (n' := 256) (ls' := [some (.inr (.inr (10, 0))), some (.inl r), some (.inl m), some (.inl k), some (.inr (.inl (zWl ((zWl (a * o)).tdiv v)))), none, some (.inl w), some (.inl v), some (.inr (.inl a)), none, some (.inl o), x11, x12]) (st' := [.inr (.inl (zWl (a - (zWl ((zWl (a * o)).tdiv v))))), .inl (zW (k + 7)), .inr (.inr (85, 0))]) (σ' := (zU (zUL (zU σ 89 0 (k.toNat) o) 86 0 (k.toNat) (zWl ((σ.1 90 0 (k.toNat)) * o))) 87 0 ((zW (k + 7)).toNat) (zW (v - o)))) 8 rfl ?_
      refine zX_ast2 (L := 672) rfl (by decide) rfl (o3 a1 a2) ?_
      refine zX_run (n' := 263) (ls' := [some (.inr (.inr (10, 0))), some (.inl r), some (.inl m), some (.inl k), some (.inr (.inl (zWl ((zWl (a * o)).tdiv v)))), none, some (.inl o), some (.inl v), some (.inr (.inl a)), none, some (.inl o), x11, x12]) (st' := [.inl o, .inl k, .inr (.inr (81, 0))]) (σ' := (zUL (zU (zUL (zU σ 89 0 (k.toNat) o) 86 0 (k.toNat) (zWl ((σ.1 90 0 (k.toNat)) * o))) 87 0 ((zW (k + 7)).toNat) (zW (v - o))) 85 0 ((zW (k + 7)).toNat) (zWl (a - (zWl ((zWl (a * o)).tdiv v)))))) 6 rfl ?_
      refine zX_ast1 (L := 672) rfl (by decide) rfl o1 ?_
      refine zX_run (n' := 266) (ls' := [some (.inr (.inr (10, 0))), some (.inl r), some (.inl m), some (.inl k), some (.inr (.inl (zWl ((zWl (a * o)).tdiv v)))), none, some (.inl o), some (.inl 0), some (.inr (.inl a)), none, some (.inl o), x11, x12]) (st' := []) (σ' := (zU (zUL (zU (zUL (zU σ 89 0 (k.toNat) o) 86 0 (k.toNat) (zWl ((σ.1 90 0 (k.toNat)) * o))) 87 0 ((zW (k + 7)).toNat) (zW (v - o))) 85 0 ((zW (k + 7)).toNat) (zWl (a - (zWl ((zWl (a * o)).tdiv v))))) 81 0 (k.toNat) o)) 2 rfl ?_
      exact h2 a1 a2
  · skip
    refine zX_run (n' := 230) (ls' := [some (.inr (.inr (10, 0))), some (.inl r), some (.inl m), some (.inl k), some (.inr (.inl 0)), none, some (.inl w), some (.inl v), some (.inr (.inl a)), none, some (.inl o), x11, x12]) (st' := [.inl k, .inr (.inr (90, 0)), .inl k, .inr (.inr (86, 0))]) (σ' := (zU σ 89 0 (k.toNat) o)) 9 rfl ?_
    refine zX_ald1 (L := 672) rfl (by decide) rfl o1 ?_
    refine zX_run (n' := 235) (ls' := [some (.inr (.inr (10, 0))), some (.inl r), some (.inl m), some (.inl k), some (.inr (.inl 0)), none, some (.inl w), some (.inl v), some (.inr (.inl a)), none, some (.inl o), x11, x12]) (st' := [.inr (.inl (zWl ((σ.1 90 0 (k.toNat)) * o))), .inl k, .inr (.inr (86, 0))]) (σ' := (zU σ 89 0 (k.toNat) o)) 4 rfl ?_
    refine zX_ast2 (L := 672) rfl (by decide) rfl o1 ?_
    refine zX_run (n' := 238) (ls' := [some (.inr (.inr (10, 0))), some (.inl r), some (.inl m), some (.inl k), some (.inr (.inl 0)), none, some (.inl w), some (.inl v), some (.inr (.inl a)), none, some (.inl o), x11, x12]) (st' := [.inl 95, .inl m]) (σ' := (zUL (zU σ 89 0 (k.toNat) o) 86 0 (k.toNat) (zWl ((σ.1 90 0 (k.toNat)) * o)))) 2 rfl ?_
    refine zX_c3 rfl (fun a3 => ?_) (fun a3 => ?_)
    · skip
      refine zX_run (n' := 263) (ls' := [some (.inr (.inr (10, 0))), some (.inl r), some (.inl m), some (.inl k), some (.inr (.inl 0)), none, some (.inl o), some (.inl v), some (.inr (.inl a)), none, some (.inl o), x11, x12]) (st' := [.inl o, .inl k, .inr (.inr (81, 0))]) (σ' := (zUL (zU σ 89 0 (k.toNat) o) 86 0 (k.toNat) (zWl ((σ.1 90 0 (k.toNat)) * o)))) 6 rfl ?_
      refine zX_ast1 (L := 672) rfl (by decide) rfl o1 ?_
      refine zX_run (n' := 266) (ls' := [some (.inr (.inr (10, 0))), some (.inl r), some (.inl m), some (.inl k), some (.inr (.inl 0)), none, some (.inl o), some (.inl 0), some (.inr (.inl a)), none, some (.inl o), x11, x12]) (st' := []) (σ' := (zU (zUL (zU σ 89 0 (k.toNat) o) 86 0 (k.toNat) (zWl ((σ.1 90 0 (k.toNat)) * o))) 81 0 (k.toNat) o)) 2 rfl ?_
      exact h3 a1 a3
    · skip
      refine zX_run (n' := 247) (ls' := [some (.inr (.inr (10, 0))), some (.inl r), some (.inl m), some (.inl k), some (.inr (.inl 0)), none, some (.inl w), some (.inl v), some (.inr (.inl a)), none, some (.inl o), x11, x12]) (st' := [.inl (zW (v - o)), .inl (zW (k + 7)), .inr (.inr (87, 0))]) (σ' := (zUL (zU σ 89 0 (k.toNat) o) 86 0 (k.toNat) (zWl ((σ.1 90 0 (k.toNat)) * o)))) 8 rfl ?_
      refine zX_ast1 (L := 672) rfl (by decide) rfl (o4 a1 a3) ?_
      refine zX_run (n' := 256) (ls' := [some (.inr (.inr (10, 0))), some (.inl r), some (.inl m), some (.inl k), some (.inr (.inl 0)), none, some (.inl w), some (.inl v), some (.inr (.inl a)), none, some (.inl o), x11, x12]) (st' := [.inr (.inl (zWl (a - 0))), .inl (zW (k + 7)), .inr (.inr (85, 0))]) (σ' := (zU (zUL (zU σ 89 0 (k.toNat) o) 86 0 (k.toNat) (zWl ((σ.1 90 0 (k.toNat)) * o))) 87 0 ((zW (k + 7)).toNat) (zW (v - o)))) 8 rfl ?_
      refine zX_ast2 (L := 672) rfl (by decide) rfl (o4 a1 a3) ?_
      refine zX_run (n' := 263) (ls' := [some (.inr (.inr (10, 0))), some (.inl r), some (.inl m), some (.inl k), some (.inr (.inl 0)), none, some (.inl o), some (.inl v), some (.inr (.inl a)), none, some (.inl o), x11, x12]) (st' := [.inl o, .inl k, .inr (.inr (81, 0))]) (σ' := (zUL (zU (zUL (zU σ 89 0 (k.toNat) o) 86 0 (k.toNat) (zWl ((σ.1 90 0 (k.toNat)) * o))) 87 0 ((zW (k + 7)).toNat) (zW (v - o))) 85 0 ((zW (k + 7)).toNat) (zWl (a - 0)))) 6 rfl ?_
      refine zX_ast1 (L := 672) rfl (by decide) rfl o1 ?_
      refine zX_run (n' := 266) (ls' := [some (.inr (.inr (10, 0))), some (.inl r), some (.inl m), some (.inl k), some (.inr (.inl 0)), none, some (.inl o), some (.inl 0), some (.inr (.inl a)), none, some (.inl o), x11, x12]) (st' := []) (σ' := (zU (zUL (zU (zUL (zU σ 89 0 (k.toNat) o) 86 0 (k.toNat) (zWl ((σ.1 90 0 (k.toNat)) * o))) 87 0 ((zW (k + 7)).toNat) (zW (v - o))) 85 0 ((zW (k + 7)).toNat) (zWl (a - 0))) 81 0 (k.toNat) o)) 2 rfl ?_
      exact h4 a1 a3
theorem zs_156i {d : Nat} {σ : zS} {Q : Option zV → zS → Prop} {p m : Int} (o1 : 0 ≤ p ∧ p < 16) (o2 : 0 ≤ m ∧ m < 96) (o3 : mHok σ p.toNat) (o4 : mCok σ) (o5 : σ.1 100 0 (7 * m.toNat + (σ.1 62 0 p.toNat).toNat) = mRead σ (σ.1 62 0 p.toNat).toNat m.toNat)
    (h : ∀ g : Nat → Nat → Int, Q (some (.inl (uWants (mD σ) p.toNat m.toNat (uLvs (σ.1 55 0) (fun r => σ.1 87 0 (7 * m.toNat + r)) 7)))) (zK σ 98 g)) :
    zM (d + 4) 156 [.inr (.inr (10, 0)), .inl p, .inl m] σ Q := by
  obtain ⟨p, rfl⟩ := Int.eq_ofNat_of_zero_le o1.1
  obtain ⟨m, rfl⟩ := Int.eq_ofNat_of_zero_le o2.1
  exact zs_156 (by omega) (by omega) o3 o4 rfl o5 h
-- X10_flows
theorem zb_159gx {d : Nat} {σ : zS} {Q : Option zV → zS → Prop} {r m k s w i : Int} {x8 x9 x10 x11 x12 : Option zV}
    (q1 : σ.1 10 0 4 ≤ i)
    (o1 : (0 : Int) ≤ k ∧ k < (672 : Int))
    (h1 : Q (none) (zUL (zU σ 82 0 (k.toNat) w) 84 0 (k.toNat) s)) :
    zX (d + 5) 159 266 [some (.inr (.inr (10, 0))), some (.inl r), some (.inl m), some (.inl k), some (.inr (.inl s)), none, some (.inl w), some (.inl i), x8, x9, x10, x11, x12] [] σ Q := by
  refine zX_run (n' := 269) (ls' := [some (.inr (.inr (10, 0))), some (.inl r), some (.inl m), some (.inl k), some (.inr (.inl s)), none, some (.inl w), some (.inl i), x8, x9, x10, x11, x12]) (st' := [.inl (σ.1 10 0 4), .inl i]) (σ' := σ) 3 rfl ?_
  refine zX_c3 rfl (fun _ => ?_) (fun a1 => absurd a1 (by omega))
  refine zX_run (n' := 361) (ls' := [some (.inr (.inr (10, 0))), some (.inl r), some (.inl m), some (.inl k), some (.inr (.inl s)), none, some (.inl w), some (.inl i), x8, x9, x10, x11, x12]) (st' := [.inl w, .inl k, .inr (.inr (82, 0))]) (σ' := σ) 4 rfl ?_
  refine zX_ast1 (L := 672) rfl (by decide) rfl o1 ?_
  refine zX_run (n' := 366) (ls' := [some (.inr (.inr (10, 0))), some (.inl r), some (.inl m), some (.inl k), some (.inr (.inl s)), none, some (.inl w), some (.inl i), x8, x9, x10, x11, x12]) (st' := [.inr (.inl s), .inl k, .inr (.inr (84, 0))]) (σ' := (zU σ 82 0 (k.toNat) w)) 4 rfl ?_
  refine zX_ast2 (L := 672) rfl (by decide) rfl o1 ?_
  exact zX_ret0 rfl rfl h1
-- X10_flows
theorem zb_159gn {d : Nat} {σ : zS} {Q : Option zV → zS → Prop} {r m k s w i : Int} {x8 x9 x10 x11 x12 : Option zV}
    (q1 : i < σ.1 10 0 4)
    (q2 : ¬ σ.1 62 0 ((σ.1 99 0 (i.toNat)).toNat) = r)
    (o1 : (0 : Int) ≤ i ∧ i < (17 : Int))
    (o2 : (0 : Int) ≤ σ.1 99 0 (i.toNat) ∧ σ.1 99 0 (i.toNat) < (17 : Int))
    (h1 : zX (d + 5) 159 266 [some (.inr (.inr (10, 0))), some (.inl r), some (.inl m), some (.inl k), some (.inr (.inl s)), none, some (.inl w), some (.inl (zW (i + 1))), some (.inl (σ.1 99 0 (i.toNat))), x9, x10, x11, x12] [] σ Q) :
    zX (d + 5) 159 266 [some (.inr (.inr (10, 0))), some (.inl r), some (.inl m), some (.inl k), some (.inr (.inl s)), none, some (.inl w), some (.inl i), x8, x9, x10, x11, x12] [] σ Q := by
  refine zX_run (n' := 269) (ls' := [some (.inr (.inr (10, 0))), some (.inl r), some (.inl m), some (.inl k), some (.inr (.inl s)), none, some (.inl w), some (.inl i), x8, x9, x10, x11, x12]) (st' := [.inl (σ.1 10 0 4), .inl i]) (σ' := σ) 3 rfl ?_
  refine zX_c3 rfl (fun a1 => absurd a1 (by omega)) (fun _ => ?_)
  refine zX_run (n' := 273) (ls' := [some (.inr (.inr (10, 0))), some (.inl r), some (.inl m), some (.inl k), some (.inr (.inl s)), none, some (.inl w), some (.inl i), x8, x9, x10, x11, x12]) (st' := [.inl i, .inr (.inr (99, 0))]) (σ' := σ) 3 rfl ?_
  refine zX_ald1 (L := 17) rfl (by decide) rfl o1 ?_
  refine zX_run (n' := 278) (ls' := [some (.inr (.inr (10, 0))), some (.inl r), some (.inl m), some (.inl k), some (.inr (.inl s)), none, some (.inl w), some (.inl i), some (.inl (σ.1 99 0 (i.toNat))), x9, x10, x11, x12]) (st' := [.inl (σ.1 99 0 (i.toNat)), .inr (.inr (62, 0))]) (σ' := σ) 4 rfl ?_
  refine zX_ald1 (L := 17) rfl (by decide) rfl o2 ?_
  refine zX_run (n' := 280) (ls' := [some (.inr (.inr (10, 0))), some (.inl r), some (.inl m), some (.inl k), some (.inr (.inl s)), none, some (.inl w), some (.inl i), some (.inl (σ.1 99 0 (i.toNat))), x9, x10, x11, x12]) (st' := [.inl r, .inl (σ.1 62 0 ((σ.1 99 0 (i.toNat)).toNat))]) (σ' := σ) 1 rfl ?_
  refine zX_c0 rfl (fun a2 => absurd a2 (by omega)) (fun _ => ?_)
  refine zX_run (n' := 266) (ls' := [some (.inr (.inr (10, 0))), some (.inl r), some (.inl m), some (.inl k), some (.inr (.inl s)), none, some (.inl w), some (.inl (zW (i + 1))), some (.inl (σ.1 99 0 (i.toNat))), x9, x10, x11, x12]) (st' := []) (σ' := σ) 3 rfl ?_
  exact h1
-- X10_flows
theorem zb_159gh {d : Nat} {σ : zS} {Q : Option zV → zS → Prop} {r m k s w i : Int} {x8 x9 x10 x11 x12 : Option zV}
    (q1 : i < σ.1 10 0 4)
    (q2 : σ.1 62 0 ((σ.1 99 0 (i.toNat)).toNat) = r)
    (o1 : (0 : Int) ≤ i ∧ i < (17 : Int))
    (o2 : (0 : Int) ≤ σ.1 99 0 (i.toNat) ∧ σ.1 99 0 (i.toNat) < (17 : Int))
    (h1 : zX (d + 5) 159 282 [some (.inr (.inr (10, 0))), some (.inl r), some (.inl m), some (.inl k), some (.inr (.inl s)), none, some (.inl w), some (.inl i), some (.inl (σ.1 99 0 (i.toNat))), x9, x10, x11, x12] [] σ Q) :
    zX (d + 5) 159 266 [some (.inr (.inr (10, 0))), some (.inl r), some (.inl m), some (.inl k), some (.inr (.inl s)), none, some (.inl w), some (.inl i), x8, x9, x10, x11, x12] [] σ Q := by
  refine zX_run (n' := 269) (ls' := [some (.inr (.inr (10, 0))), some (.inl r), some (.inl m), some (.inl k), some (.inr (.inl s)), none, some (.inl w), some (.inl i), x8, x9, x10, x11, x12]) (st' := [.inl (σ.1 10 0 4), .inl i]) (σ' := σ) 3 rfl ?_
  refine zX_c3 rfl (fun a1 => absurd a1 (by omega)) (fun _ => ?_)
  refine zX_run (n' := 273) (ls' := [some (.inr (.inr (10, 0))), some (.inl r), some (.inl m), some (.inl k), some (.inr (.inl s)), none, some (.inl w), some (.inl i), x8, x9, x10, x11, x12]) (st' := [.inl i, .inr (.inr (99, 0))]) (σ' := σ) 3 rfl ?_
  refine zX_ald1 (L := 17) rfl (by decide) rfl o1 ?_
  refine zX_run (n' := 278) (ls' := [some (.inr (.inr (10, 0))), some (.inl r), some (.inl m), some (.inl k), some (.inr (.inl s)), none, some (.inl w), some (.inl i), some (.inl (σ.1 99 0 (i.toNat))), x9, x10, x11, x12]) (st' := [.inl (σ.1 99 0 (i.toNat)), .inr (.inr (62, 0))]) (σ' := σ) 4 rfl ?_
  refine zX_ald1 (L := 17) rfl (by decide) rfl o2 ?_
  refine zX_run (n' := 280) (ls' := [some (.inr (.inr (10, 0))), some (.inl r), some (.inl m), some (.inl k), some (.inr (.inl s)), none, some (.inl w), some (.inl i), some (.inl (σ.1 99 0 (i.toNat))), x9, x10, x11, x12]) (st' := [.inl r, .inl (σ.1 62 0 ((σ.1 99 0 (i.toNat)).toNat))]) (σ' := σ) 1 rfl ?_
  refine zX_c0 rfl (fun _ => ?_) (fun a2 => absurd a2 (by omega))
  exact h1
-- X10_flows
theorem zb_159g {d : Nat} {σ : zS} {Q : Option zV → zS → Prop} {r m k s w i p : Int} {x9 x10 x11 x12 : Option zV}
    (o1 : 0 ≤ p ∧ p < 16)
    (o2 : 0 ≤ m ∧ m < 96)
    (o3 : mHok σ p.toNat)
    (o4 : mCok σ)
    (o5 : σ.1 100 0 (7 * m.toNat + (σ.1 62 0 p.toNat).toNat) = mRead σ (σ.1 62 0 p.toNat).toNat m.toNat)
    (o6 : ∀ G1 : Nat → Nat → Int, (0 : Int) ≤ zW ((zW (17 * m)) + p) ∧ zW ((zW (17 * m)) + p) < (1632 : Int))
    (h1 : ∀ G1 : Nat → Nat → Int, zX (d + 5) 159 300 [some (.inr (.inr (10, 0))), some (.inl r), some (.inl m), some (.inl k), some (.inr (.inl s)), none, some (.inl w), some (.inl i), some (.inl p), some (.inl (zW ((zW (17 * m)) + p))), x10, x11, x12] [.inl (uWants (mD σ) p.toNat m.toNat (uLvs (σ.1 55 0) (fun r => σ.1 87 0 (7 * m.toNat + r)) 7))] (zU (zK σ 98 G1) 91 0 ((zW ((zW (17 * m)) + p)).toNat) (uWants (mD σ) p.toNat m.toNat (uLvs (σ.1 55 0) (fun r => σ.1 87 0 (7 * m.toNat + r)) 7))) Q) :
    zX (d + 5) 159 282 [some (.inr (.inr (10, 0))), some (.inl r), some (.inl m), some (.inl k), some (.inr (.inl s)), none, some (.inl w), some (.inl i), some (.inl p), x9, x10, x11, x12] [] σ Q := by
  refine zX_run (n' := 294) (ls' := [some (.inr (.inr (10, 0))), some (.inl r), some (.inl m), some (.inl k), some (.inr (.inl s)), none, some (.inl w), some (.inl i), some (.inl p), some (.inl (zW ((zW (17 * m)) + p))), x10, x11, x12]) (st' := [.inl m, .inl p, .inr (.inr (10, 0)), .inl (zW ((zW (17 * m)) + p)), .inr (.inr (91, 0))]) (σ' := σ) 12 rfl ?_
  refine zX_call rfl rfl ?_
  refine zs_156i o1 o2 o3 o4 o5 (fun G1 => ?_)
  · skip
    refine zX_ast1 (L := 1632) rfl (by decide) rfl (o6 G1) ?_
    refine zX_run (n' := 299) (ls' := [some (.inr (.inr (10, 0))), some (.inl r), some (.inl m), some (.inl k), some (.inr (.inl s)), none, some (.inl w), some (.inl i), some (.inl p), some (.inl (zW ((zW (17 * m)) + p))), x10, x11, x12]) (st' := [.inl (zW ((zW (17 * m)) + p)), .inr (.inr (91, 0))]) (σ' := (zU (zK σ 98 G1) 91 0 ((zW ((zW (17 * m)) + p)).toNat) (uWants (mD σ) p.toNat m.toNat (uLvs (σ.1 55 0) (fun r => σ.1 87 0 (7 * m.toNat + r)) 7)))) 3 rfl ?_
    refine zX_ald1v (L := 1632) (val := (uWants (mD σ) p.toNat m.toNat (uLvs (σ.1 55 0) (fun r => σ.1 87 0 (7 * m.toNat + r)) 7))) rfl (by decide) rfl (o6 G1) (show ((zU (zK σ 98 G1) 91 0 ((zW ((zW (17 * m)) + p)).toNat) (uWants (mD σ) p.toNat m.toNat (uLvs (σ.1 55 0) (fun r => σ.1 87 0 (7 * m.toNat + r)) 7)))).1 91 0 ((zW ((zW (17 * m)) + p)).toNat) = (uWants (mD σ) p.toNat m.toNat (uLvs (σ.1 55 0) (fun r => σ.1 87 0 (7 * m.toNat + r)) 7)) from zU_same) ?_
    exact h1 G1
-- X10_flows
theorem zb_159i {d : Nat} {σ : zS} {Q : Option zV → zS → Prop} {r m k s w i p q u : Int} {x10 x11 x12 : Option zV}
    (o1 : ¬ w ≤ u → (0 : Int) ≤ q ∧ q < (1632 : Int))
    (h1 : w ≤ u → zX (d + 5) 159 308 [some (.inr (.inr (10, 0))), some (.inl r), some (.inl m), some (.inl k), some (.inr (.inl s)), none, some (.inl w), some (.inl i), some (.inl p), some (.inl q), x10, x11, x12] [.inl w] σ Q)
    (h2 : ¬ w ≤ u → zX (d + 5) 159 308 [some (.inr (.inr (10, 0))), some (.inl r), some (.inl m), some (.inl k), some (.inr (.inl s)), none, some (.inl w), some (.inl i), some (.inl p), some (.inl q), x10, x11, x12] [.inl (σ.1 91 0 (q.toNat))] σ Q) :
    zX (d + 5) 159 300 [some (.inr (.inr (10, 0))), some (.inl r), some (.inl m), some (.inl k), some (.inr (.inl s)), none, some (.inl w), some (.inl i), some (.inl p), some (.inl q), x10, x11, x12] [.inl u] σ Q := by
  refine zX_run (n' := 301) (ls' := [some (.inr (.inr (10, 0))), some (.inl r), some (.inl m), some (.inl k), some (.inr (.inl s)), none, some (.inl w), some (.inl i), some (.inl p), some (.inl q), x10, x11, x12]) (st' := [.inl w, .inl u]) (σ' := σ) 1 rfl ?_
  refine zX_c3 rfl (fun a1 => ?_) (fun a1 => ?_)
  · skip
    refine zX_run (n' := 308) (ls' := [some (.inr (.inr (10, 0))), some (.inl r), some (.inl m), some (.inl k), some (.inr (.inl s)), none, some (.inl w), some (.inl i), some (.inl p), some (.inl q), x10, x11, x12]) (st' := [.inl w]) (σ' := σ) 1 rfl ?_
    exact h1 a1
  · skip
    refine zX_run (n' := 305) (ls' := [some (.inr (.inr (10, 0))), some (.inl r), some (.inl m), some (.inl k), some (.inr (.inl s)), none, some (.inl w), some (.inl i), some (.inl p), some (.inl q), x10, x11, x12]) (st' := [.inl q, .inr (.inr (91, 0))]) (σ' := σ) 3 rfl ?_
    refine zX_ald1 (L := 1632) rfl (by decide) rfl (o1 a1) ?_
    refine zX_run (n' := 308) (ls' := [some (.inr (.inr (10, 0))), some (.inl r), some (.inl m), some (.inl k), some (.inr (.inl s)), none, some (.inl w), some (.inl i), some (.inl p), some (.inl q), x10, x11, x12]) (st' := [.inl (σ.1 91 0 (q.toNat))]) (σ' := σ) 1 rfl ?_
    exact h2 a1
-- X10_flows
theorem zb_159j {d : Nat} {σ : zS} {Q : Option zV → zS → Prop} {r m k s w i p q g : Int} {x10 x11 x12 : Option zV}
    (o1 : ¬ w = 0 → w ≠ 0)
    (o2 : ¬ w = 0 → (0 : Int) ≤ q ∧ q < (1632 : Int))
    (o3 : ¬ w = 0 → 0 ≤ p ∧ p < 17)
    (o4 : w = 0 → (0 : Int) ≤ q ∧ q < (1632 : Int))
    (o5 : w = 0 → 0 ≤ p ∧ p < 17)
    (h1 : ¬ w = 0 → zX (d + 5) 159 266 [some (.inr (.inr (10, 0))), some (.inl r), some (.inl m), some (.inl k), some (.inr (.inl (zWl (s - (zWl ((zWl (s * g)).tdiv w)))))), none, some (.inl (zW (w - g))), some (.inl (zW (i + 1))), some (.inl p), some (.inl q), some (.inl g), some (.inr (.inl (zWl ((zWl (s * g)).tdiv w)))), none] [] (zUL (zU (zU σ 92 0 (q.toNat) g) 93 0 (q.toNat) (zW ((zW (g * (uHun (σ.1 60 0 p.toNat)))).tdiv 100))) 94 0 (q.toNat) (zWl ((zWl ((zWl (s * g)).tdiv w)) + (zW (g.tdiv 50))))) Q)
    (h2 : w = 0 → zX (d + 5) 159 266 [some (.inr (.inr (10, 0))), some (.inl r), some (.inl m), some (.inl k), some (.inr (.inl (zWl (s - 0)))), none, some (.inl (zW (w - g))), some (.inl (zW (i + 1))), some (.inl p), some (.inl q), some (.inl g), some (.inr (.inl 0)), none] [] (zUL (zU (zU σ 92 0 (q.toNat) g) 93 0 (q.toNat) (zW ((zW (g * (uHun (σ.1 60 0 p.toNat)))).tdiv 100))) 94 0 (q.toNat) (zWl (0 + (zW (g.tdiv 50))))) Q) :
    zX (d + 5) 159 308 [some (.inr (.inr (10, 0))), some (.inl r), some (.inl m), some (.inl k), some (.inr (.inl s)), none, some (.inl w), some (.inl i), some (.inl p), some (.inl q), x10, x11, x12] [.inl g] σ Q := by
  refine zX_run (n' := 310) (ls' := [some (.inr (.inr (10, 0))), some (.inl r), some (.inl m), some (.inl k), some (.inr (.inl s)), none, some (.inl w), some (.inl i), some (.inl p), some (.inl q), some (.inl g), x11, x12]) (st' := [.inl w]) (σ' := σ) 2 rfl ?_
  refine zX_i1 rfl (fun a1 => ?_) (fun a1 => ?_)
  · skip
    refine zX_run (n' := 319) (ls' := [some (.inr (.inr (10, 0))), some (.inl r), some (.inl m), some (.inl k), some (.inr (.inl s)), none, some (.inl w), some (.inl i), some (.inl p), some (.inl q), some (.inl g), x11, x12]) (st' := [.inr (.inl w), .inr (.inl (zWl (s * g)))]) (σ' := σ) 6 rfl ?_
    refine zX_ldiv rfl (o1 a1) ?_
    refine zX_run (n' := 325) (ls' := [some (.inr (.inr (10, 0))), some (.inl r), some (.inl m), some (.inl k), some (.inr (.inl s)), none, some (.inl w), some (.inl i), some (.inl p), some (.inl q), some (.inl g), some (.inr (.inl (zWl ((zWl (s * g)).tdiv w)))), none]) (st' := [.inl g, .inl q, .inr (.inr (92, 0))]) (σ' := σ) 5 rfl ?_
    refine zX_ast1 (L := 1632) rfl (by decide) rfl (o2 a1) ?_
    refine zX_run (n' := 332) (ls' := [some (.inr (.inr (10, 0))), some (.inl r), some (.inl m), some (.inl k), some (.inr (.inl s)), none, some (.inl w), some (.inl i), some (.inl p), some (.inl q), some (.inl g), some (.inr (.inl (zWl ((zWl (s * g)).tdiv w)))), none]) (st' := [.inl p, .inr (.inr (10, 0)), .inl g, .inl q, .inr (.inr (93, 0))]) (σ' := (zU σ 92 0 (q.toNat) g)) 6 rfl ?_
    refine zX_call rfl rfl ?_
    refine zs_136 (o3 a1) ?_
    · skip
      refine zX_run (n' := 336) (ls' := [some (.inr (.inr (10, 0))), some (.inl r), some (.inl m), some (.inl k), some (.inr (.inl s)), none, some (.inl w), some (.inl i), some (.inl p), some (.inl q), some (.inl g), some (.inr (.inl (zWl ((zWl (s * g)).tdiv w)))), none]) (st' := [.inl (zW ((zW (g * (uHun (σ.1 60 0 p.toNat)))).tdiv 100)), .inl q, .inr (.inr (93, 0))]) (σ' := (zU σ 92 0 (q.toNat) g)) 3 rfl ?_
      refine zX_ast1 (L := 1632) rfl (by decide) rfl (o2 a1) ?_
      refine zX_run (n' := 346) (ls' := [some (.inr (.inr (10, 0))), some (.inl r), some (.inl m), some (.inl k), some (.inr (.inl s)), none, some (.inl w), some (.inl i), some (.inl p), some (.inl q), some (.inl g), some (.inr (.inl (zWl ((zWl (s * g)).tdiv w)))), none]) (st' := [.inr (.inl (zWl ((zWl ((zWl (s * g)).tdiv w)) + (zW (g.tdiv 50))))), .inl q, .inr (.inr (94, 0))]) (σ' := (zU (zU σ 92 0 (q.toNat) g) 93 0 (q.toNat) (zW ((zW (g * (uHun (σ.1 60 0 p.toNat)))).tdiv 100)))) 9 rfl ?_
      refine zX_ast2 (L := 1632) rfl (by decide) rfl (o2 a1) ?_
      refine zX_run (n' := 266) (ls' := [some (.inr (.inr (10, 0))), some (.inl r), some (.inl m), some (.inl k), some (.inr (.inl (zWl (s - (zWl ((zWl (s * g)).tdiv w)))))), none, some (.inl (zW (w - g))), some (.inl (zW (i + 1))), some (.inl p), some (.inl q), some (.inl g), some (.inr (.inl (zWl ((zWl (s * g)).tdiv w)))), none]) (st' := []) (σ' := (zUL (zU (zU σ 92 0 (q.toNat) g) 93 0 (q.toNat) (zW ((zW (g * (uHun (σ.1 60 0 p.toNat)))).tdiv 100))) 94 0 (q.toNat) (zWl ((zWl ((zWl (s * g)).tdiv w)) + (zW (g.tdiv 50)))))) 10 rfl ?_
      exact h1 a1
  · skip
    refine zX_run (n' := 325) (ls' := [some (.inr (.inr (10, 0))), some (.inl r), some (.inl m), some (.inl k), some (.inr (.inl s)), none, some (.inl w), some (.inl i), some (.inl p), some (.inl q), some (.inl g), some (.inr (.inl 0)), none]) (st' := [.inl g, .inl q, .inr (.inr (92, 0))]) (σ' := σ) 7 rfl ?_
    refine zX_ast1 (L := 1632) rfl (by decide) rfl (o4 a1) ?_
    refine zX_run (n' := 332) (ls' := [some (.inr (.inr (10, 0))), some (.inl r), some (.inl m), some (.inl k), some (.inr (.inl s)), none, some (.inl w), some (.inl i), some (.inl p), some (.inl q), some (.inl g), some (.inr (.inl 0)), none]) (st' := [.inl p, .inr (.inr (10, 0)), .inl g, .inl q, .inr (.inr (93, 0))]) (σ' := (zU σ 92 0 (q.toNat) g)) 6 rfl ?_
    refine zX_call rfl rfl ?_
    refine zs_136 (o5 a1) ?_
    · skip
      refine zX_run (n' := 336) (ls' := [some (.inr (.inr (10, 0))), some (.inl r), some (.inl m), some (.inl k), some (.inr (.inl s)), none, some (.inl w), some (.inl i), some (.inl p), some (.inl q), some (.inl g), some (.inr (.inl 0)), none]) (st' := [.inl (zW ((zW (g * (uHun (σ.1 60 0 p.toNat)))).tdiv 100)), .inl q, .inr (.inr (93, 0))]) (σ' := (zU σ 92 0 (q.toNat) g)) 3 rfl ?_
      refine zX_ast1 (L := 1632) rfl (by decide) rfl (o4 a1) ?_
      refine zX_run (n' := 346) (ls' := [some (.inr (.inr (10, 0))), some (.inl r), some (.inl m), some (.inl k), some (.inr (.inl s)), none, some (.inl w), some (.inl i), some (.inl p), some (.inl q), some (.inl g), some (.inr (.inl 0)), none]) (st' := [.inr (.inl (zWl (0 + (zW (g.tdiv 50))))), .inl q, .inr (.inr (94, 0))]) (σ' := (zU (zU σ 92 0 (q.toNat) g) 93 0 (q.toNat) (zW ((zW (g * (uHun (σ.1 60 0 p.toNat)))).tdiv 100)))) 9 rfl ?_
      refine zX_ast2 (L := 1632) rfl (by decide) rfl (o4 a1) ?_
      refine zX_run (n' := 266) (ls' := [some (.inr (.inr (10, 0))), some (.inl r), some (.inl m), some (.inl k), some (.inr (.inl (zWl (s - 0)))), none, some (.inl (zW (w - g))), some (.inl (zW (i + 1))), some (.inl p), some (.inl q), some (.inl g), some (.inr (.inl 0)), none]) (st' := []) (σ' := (zUL (zU (zU σ 92 0 (q.toNat) g) 93 0 (q.toNat) (zW ((zW (g * (uHun (σ.1 60 0 p.toNat)))).tdiv 100))) 94 0 (q.toNat) (zWl (0 + (zW (g.tdiv 50)))))) 10 rfl ?_
      exact h2 a1
