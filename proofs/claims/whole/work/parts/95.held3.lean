-- held, the class (wip/whole/gen/laws67.py)
-- X9_held
theorem zb_96 {d : Nat} {σ : zS} {Q : Option zV → zS → Prop} {p : Int} {u : Int}
    (h1 : (0 : Int) ≤ p ∧ p ≤ (2000000000 : Int) → (0 : Int) ≤ u ∧ u ≤ (1 : Int) → (uCnt (cTh σ) 7 : Int) ≤ 3 → zX (d + 20) 96 29 [some (.inr (.inr (9, 0))), some (.inl p), some (.inl u), some (.inl ((uCnt (cTh σ) 7 : Int))), some (.inl (-1)), some (.inr (.inl 0)), none, none, none, none] [.inl (-1), .inl (-1), .inr (.inr (0, 1))] σ Q)
    (h2 : (0 : Int) ≤ p ∧ p ≤ (2000000000 : Int) → (0 : Int) ≤ u ∧ u ≤ (1 : Int) → ¬ (uCnt (cTh σ) 7 : Int) ≤ 3 → Q (some (.inr (.inl (-6)))) σ)
    (h3 : (0 : Int) ≤ p ∧ p ≤ (2000000000 : Int) → ¬ ((0 : Int) ≤ u ∧ u ≤ (1 : Int)) → Q (some (.inr (.inl (-4611686018427387904)))) σ)
    (h4 : ¬ ((0 : Int) ≤ p ∧ p ≤ (2000000000 : Int)) → Q (some (.inr (.inl (-4611686018427387904)))) σ) :
    zM (d + 20) 96 [.inr (.inr (9, 0)), .inl p, .inl u] σ Q := by
  refine zX_run (n' := 3) (ls' := [some (.inr (.inr (9, 0))), some (.inl p), some (.inl u), none, none, none, none, none, none, none]) (st' := [.inl 2000000000, .inl 0, .inl p]) (σ' := σ) 3 rfl ?_
  refine zX_call rfl rfl ?_
  refine zs_104 (fun a1 => ?_) (fun a2 => ?_)
  · skip
    refine zX_run (n' := 8) (ls' := [some (.inr (.inr (9, 0))), some (.inl p), some (.inl u), none, none, none, none, none, none, none]) (st' := [.inl 1, .inl 0, .inl u]) (σ' := σ) 4 rfl ?_
    refine zX_call rfl rfl ?_
    refine zs_104 (fun a3 => ?_) (fun a4 => ?_)
    · skip
      refine zX_run (n' := 14) (ls' := [some (.inr (.inr (9, 0))), some (.inl p), some (.inl u), none, none, none, none, none, none, none]) (st' := [.inr (.inr (8, 0))]) (σ' := σ) 3 rfl ?_
      refine zX_call rfl rfl ?_
      refine zs_62 ?_
      · skip
        refine zX_run (n' := 18) (ls' := [some (.inr (.inr (9, 0))), some (.inl p), some (.inl u), some (.inl ((uCnt (cTh σ) 7 : Int))), none, none, none, none, none, none]) (st' := [.inl 3, .inl ((uCnt (cTh σ) 7 : Int))]) (σ' := σ) 3 rfl ?_
        refine zX_c5 rfl (fun a5 => ?_) (fun a5 => ?_)
        · skip
          refine zX_run (n' := 29) (ls' := [some (.inr (.inr (9, 0))), some (.inl p), some (.inl u), some (.inl ((uCnt (cTh σ) 7 : Int))), some (.inl (-1)), some (.inr (.inl 0)), none, none, none, none]) (st' := [.inl (-1), .inl (-1), .inr (.inr (0, 1))]) (σ' := σ) 8 rfl ?_
          exact h1 a1 a3 a5
        · skip
          refine zX_run (n' := 20) (ls' := [some (.inr (.inr (9, 0))), some (.inl p), some (.inl u), some (.inl ((uCnt (cTh σ) 7 : Int))), none, none, none, none, none, none]) (st' := [.inr (.inl (-6))]) (σ' := σ) 1 rfl ?_
          exact zX_retL rfl rfl (h2 a1 a3 a5)
    · skip
      refine zX_run (n' := 11) (ls' := [some (.inr (.inr (9, 0))), some (.inl p), some (.inl u), none, none, none, none, none, none, none]) (st' := [.inr (.inl (-4611686018427387904))]) (σ' := σ) 2 rfl ?_
      exact zX_retL rfl rfl (h3 a1 a4)
  · skip
    refine zX_run (n' := 11) (ls' := [some (.inr (.inr (9, 0))), some (.inl p), some (.inl u), none, none, none, none, none, none, none]) (st' := [.inr (.inl (-4611686018427387904))]) (σ' := σ) 2 rfl ?_
    exact zX_retL rfl rfl (h4 a2)
-- X9_held
theorem zb_96b {d : Nat} {σ : zS} {Q : Option zV → zS → Prop} {p u n best least : Int}
    (h1 : zX (d + 20) 96 32 [some (.inr (.inr (9, 0))), some (.inl p), some (.inl u), some (.inl n), some (.inl best), some (.inr (.inl least)), none, some (.inl 0), none, none] [] σ Q) :
    zX (d + 20) 96 30 [some (.inr (.inr (9, 0))), some (.inl p), some (.inl u), some (.inl n), some (.inl best), some (.inr (.inl least)), none, none, none, none] [] σ Q := by
  refine zX_run (n' := 32) (ls' := [some (.inr (.inr (9, 0))), some (.inl p), some (.inl u), some (.inl n), some (.inl best), some (.inr (.inl least)), none, some (.inl 0), none, none]) (st' := []) (σ' := σ) 2 rfl ?_
  exact h1
-- X9_held
theorem zb_96l {d : Nat} {σ : zS} {Q : Option zV → zS → Prop} {p u n best least w : Int} {x y : Option zV}
    (h1 : zBin 6 1 (zW (2 * n)) ≤ w → zX (d + 20) 96 76 [some (.inr (.inr (9, 0))), some (.inl p), some (.inl u), some (.inl n), some (.inl best), some (.inr (.inl least)), none, some (.inl w), x, y] [] σ Q)
    (h2 : ¬ zBin 6 1 (zW (2 * n)) ≤ w → zX (d + 20) 96 42 [some (.inr (.inr (9, 0))), some (.inl p), some (.inl u), some (.inl n), some (.inl best), some (.inr (.inl least)), none, some (.inl w), x, y] [.inl w, .inr (.inr (0, 1))] σ Q) :
    zX (d + 20) 96 32 [some (.inr (.inr (9, 0))), some (.inl p), some (.inl u), some (.inl n), some (.inl best), some (.inr (.inl least)), none, some (.inl w), x, y] [] σ Q := by
  refine zX_run (n' := 38) (ls' := [some (.inr (.inr (9, 0))), some (.inl p), some (.inl u), some (.inl n), some (.inl best), some (.inr (.inl least)), none, some (.inl w), x, y]) (st' := [.inl (zBin 6 1 (zW (2 * n))), .inl w]) (σ' := σ) 6 rfl ?_
  refine zX_c3 rfl (fun a1 => ?_) (fun a1 => ?_)
  · skip
    exact h1 a1
  · skip
    refine zX_run (n' := 42) (ls' := [some (.inr (.inr (9, 0))), some (.inl p), some (.inl u), some (.inl n), some (.inl best), some (.inr (.inl least)), none, some (.inl w), x, y]) (st' := [.inl w, .inr (.inr (0, 1))]) (σ' := σ) 3 rfl ?_
    exact h2 a1
-- X9_held
theorem zb_96m {d : Nat} {σ : zS} {Q : Option zV → zS → Prop} {p u n best least w : Int} {x y : Option zV}
    (h1 : zX (d + 20) 96 45 [some (.inr (.inr (9, 0))), some (.inl p), some (.inl u), some (.inl n), some (.inl best), some (.inr (.inl least)), none, some (.inl w), x, y] [.inr (.inr (0, 1))] σ Q) :
    zX (d + 20) 96 43 [some (.inr (.inr (9, 0))), some (.inl p), some (.inl u), some (.inl n), some (.inl best), some (.inr (.inl least)), none, some (.inl w), x, y] [] σ Q := by
  refine zX_run (n' := 45) (ls' := [some (.inr (.inr (9, 0))), some (.inl p), some (.inl u), some (.inl n), some (.inl best), some (.inr (.inl least)), none, some (.inl w), x, y]) (st' := [.inr (.inr (0, 1))]) (σ' := σ) 2 rfl ?_
  exact h1
-- X9_held
theorem zb_96n {d : Nat} {σ : zS} {Q : Option zV → zS → Prop} {p u n best least w : Int} {x y : Option zV}
    (h1 : zX (d + 20) 96 49 [some (.inr (.inr (9, 0))), some (.inl p), some (.inl u), some (.inl n), some (.inl best), some (.inr (.inl least)), none, some (.inl w), x, y] [.inl 96, .inr (.inr (0, 1))] σ Q) :
    zX (d + 20) 96 46 [some (.inr (.inr (9, 0))), some (.inl p), some (.inl u), some (.inl n), some (.inl best), some (.inr (.inl least)), none, some (.inl w), x, y] [] σ Q := by
  refine zX_run (n' := 49) (ls' := [some (.inr (.inr (9, 0))), some (.inl p), some (.inl u), some (.inl n), some (.inl best), some (.inr (.inl least)), none, some (.inl w), x, y]) (st' := [.inl 96, .inr (.inr (0, 1))]) (σ' := σ) 3 rfl ?_
  exact h1
-- X9_held
theorem zb_96o {d : Nat} {σ : zS} {Q : Option zV → zS → Prop} {p u n best least w : Int} {x y : Option zV}
    (h1 : zX (d + 20) 96 53 [some (.inr (.inr (9, 0))), some (.inl p), some (.inl u), some (.inl n), some (.inl best), some (.inr (.inl least)), none, some (.inl w), x, y] [.inl 3, .inr (.inr (0, 1))] σ Q) :
    zX (d + 20) 96 50 [some (.inr (.inr (9, 0))), some (.inl p), some (.inl u), some (.inl n), some (.inl best), some (.inr (.inl least)), none, some (.inl w), x, y] [] σ Q := by
  refine zX_run (n' := 53) (ls' := [some (.inr (.inr (9, 0))), some (.inl p), some (.inl u), some (.inl n), some (.inl best), some (.inr (.inl least)), none, some (.inl w), x, y]) (st' := [.inl 3, .inr (.inr (0, 1))]) (σ' := σ) 3 rfl ?_
  exact h1
-- X9_held
theorem zb_96p {d : Nat} {σ : zS} {Q : Option zV → zS → Prop} {p u n best least w : Int} {v : Int} {x y : Option zV}
    (h1 : best = (-1) → zX (d + 20) 96 65 [some (.inr (.inr (9, 0))), some (.inl p), some (.inl u), some (.inl n), some (.inl best), some (.inr (.inl least)), none, some (.inl w), some (.inr (.inl v)), none] [.inl 7, .inr (.inr (0, 1))] σ Q)
    (h2 : ¬ best = (-1) → least < v → zX (d + 20) 96 74 [some (.inr (.inr (9, 0))), some (.inl p), some (.inl u), some (.inl n), some (.inl best), some (.inr (.inl least)), none, some (.inl w), some (.inr (.inl v)), none] [] σ Q)
    (h3 : ¬ best = (-1) → v = least → zX (d + 20) 96 74 [some (.inr (.inr (9, 0))), some (.inl p), some (.inl u), some (.inl n), some (.inl best), some (.inr (.inl least)), none, some (.inl w), some (.inr (.inl v)), none] [] σ Q)
    (h4 : ¬ best = (-1) → v < least → zX (d + 20) 96 65 [some (.inr (.inr (9, 0))), some (.inl p), some (.inl u), some (.inl n), some (.inl best), some (.inr (.inl least)), none, some (.inl w), some (.inr (.inl v)), none] [.inl 7, .inr (.inr (0, 1))] σ Q) :
    zX (d + 20) 96 54 [some (.inr (.inr (9, 0))), some (.inl p), some (.inl u), some (.inl n), some (.inl best), some (.inr (.inl least)), none, some (.inl w), x, y] [.inr (.inl v)] σ Q := by
  refine zX_run (n' := 57) (ls' := [some (.inr (.inr (9, 0))), some (.inl p), some (.inl u), some (.inl n), some (.inl best), some (.inr (.inl least)), none, some (.inl w), some (.inr (.inl v)), none]) (st' := [.inl (-1), .inl best]) (σ' := σ) 3 rfl ?_
  refine zX_c0 rfl (fun a1 => ?_) (fun a1 => ?_)
  · skip
    refine zX_run (n' := 65) (ls' := [some (.inr (.inr (9, 0))), some (.inl p), some (.inl u), some (.inl n), some (.inl best), some (.inr (.inl least)), none, some (.inl w), some (.inr (.inl v)), none]) (st' := [.inl 7, .inr (.inr (0, 1))]) (σ' := σ) 3 rfl ?_
    exact h1 a1
  · skip
    refine zX_run (n' := 60) (ls' := [some (.inr (.inr (9, 0))), some (.inl p), some (.inl u), some (.inl n), some (.inl best), some (.inr (.inl least)), none, some (.inl w), some (.inr (.inl v)), none]) (st' := [.inr (.inl least), .inr (.inl v)]) (σ' := σ) 2 rfl ?_
    refine zX_lc rfl (fun a2 => ?_) (fun a2 => ?_) (fun a2 => ?_)
    · skip
      refine zX_run (n' := 74) (ls' := [some (.inr (.inr (9, 0))), some (.inl p), some (.inl u), some (.inl n), some (.inl best), some (.inr (.inl least)), none, some (.inl w), some (.inr (.inl v)), none]) (st' := []) (σ' := σ) 1 rfl ?_
      exact h2 a1 a2
    · skip
      refine zX_run (n' := 74) (ls' := [some (.inr (.inr (9, 0))), some (.inl p), some (.inl u), some (.inl n), some (.inl best), some (.inr (.inl least)), none, some (.inl w), some (.inr (.inl v)), none]) (st' := []) (σ' := σ) 1 rfl ?_
      exact h3 a1 a2
    · skip
      refine zX_run (n' := 65) (ls' := [some (.inr (.inr (9, 0))), some (.inl p), some (.inl u), some (.inl n), some (.inl best), some (.inr (.inl least)), none, some (.inl w), some (.inr (.inl v)), none]) (st' := [.inl 7, .inr (.inr (0, 1))]) (σ' := σ) 4 rfl ?_
      exact h4 a1 a2
-- X9_held
theorem zb_96q {d : Nat} {σ : zS} {Q : Option zV → zS → Prop} {p u n best least w : Int} {v g : Int}
    (h1 : p < g → zX (d + 20) 96 74 [some (.inr (.inr (9, 0))), some (.inl p), some (.inl u), some (.inl n), some (.inl w), some (.inr (.inl v)), none, some (.inl w), some (.inr (.inl v)), none] [] σ Q)
    (h2 : g = p → zX (d + 20) 96 74 [some (.inr (.inr (9, 0))), some (.inl p), some (.inl u), some (.inl n), some (.inl w), some (.inr (.inl v)), none, some (.inl w), some (.inr (.inl v)), none] [] σ Q)
    (h3 : g < p → zX (d + 20) 96 74 [some (.inr (.inr (9, 0))), some (.inl p), some (.inl u), some (.inl n), some (.inl best), some (.inr (.inl least)), none, some (.inl w), some (.inr (.inl v)), none] [] σ Q) :
    zX (d + 20) 96 66 [some (.inr (.inr (9, 0))), some (.inl p), some (.inl u), some (.inl n), some (.inl best), some (.inr (.inl least)), none, some (.inl w), some (.inr (.inl v)), none] [.inr (.inl g)] σ Q := by
  refine zX_run (n' := 68) (ls' := [some (.inr (.inr (9, 0))), some (.inl p), some (.inl u), some (.inl n), some (.inl best), some (.inr (.inl least)), none, some (.inl w), some (.inr (.inl v)), none]) (st' := [.inr (.inl p), .inr (.inl g)]) (σ' := σ) 2 rfl ?_
  refine zX_lc rfl (fun a1 => ?_) (fun a1 => ?_) (fun a1 => ?_)
  · skip
    refine zX_run (n' := 74) (ls' := [some (.inr (.inr (9, 0))), some (.inl p), some (.inl u), some (.inl n), some (.inl w), some (.inr (.inl v)), none, some (.inl w), some (.inr (.inl v)), none]) (st' := []) (σ' := σ) 5 rfl ?_
    exact h1 a1
  · skip
    refine zX_run (n' := 74) (ls' := [some (.inr (.inr (9, 0))), some (.inl p), some (.inl u), some (.inl n), some (.inl w), some (.inr (.inl v)), none, some (.inl w), some (.inr (.inl v)), none]) (st' := []) (σ' := σ) 5 rfl ?_
    exact h2 a1
  · skip
    refine zX_run (n' := 74) (ls' := [some (.inr (.inr (9, 0))), some (.inl p), some (.inl u), some (.inl n), some (.inl best), some (.inr (.inl least)), none, some (.inl w), some (.inr (.inl v)), none]) (st' := []) (σ' := σ) 1 rfl ?_
    exact h3 a1
-- X9_held
theorem zb_96r {d : Nat} {σ : zS} {Q : Option zV → zS → Prop} {p u n best least w : Int} {x y : Option zV}
    (h1 : zX (d + 20) 96 32 [some (.inr (.inr (9, 0))), some (.inl p), some (.inl u), some (.inl n), some (.inl best), some (.inr (.inl least)), none, some (.inl (zW (w + 1))), x, y] [] σ Q) :
    zX (d + 20) 96 74 [some (.inr (.inr (9, 0))), some (.inl p), some (.inl u), some (.inl n), some (.inl best), some (.inr (.inl least)), none, some (.inl w), x, y] [] σ Q := by
  refine zX_run (n' := 32) (ls' := [some (.inr (.inr (9, 0))), some (.inl p), some (.inl u), some (.inl n), some (.inl best), some (.inr (.inl least)), none, some (.inl (zW (w + 1))), x, y]) (st' := []) (σ' := σ) 2 rfl ?_
  exact h1
-- X9_held
theorem zb_96s {d : Nat} {σ : zS} {Q : Option zV → zS → Prop} {p u n best least w : Int} {x y : Option zV}
    (h1 : ¬ best = (-1) → ¬ u = 0 → Q (some (.inr (.inl least))) σ)
    (h2 : ¬ best = (-1) → u = 0 → Q (some (.inr (.inl best))) σ)
    (h3 : best = (-1) → Q (some (.inr (.inl (-5)))) σ) :
    zX (d + 20) 96 76 [some (.inr (.inr (9, 0))), some (.inl p), some (.inl u), some (.inl n), some (.inl best), some (.inr (.inl least)), none, some (.inl w), x, y] [] σ Q := by
  refine zX_run (n' := 78) (ls' := [some (.inr (.inr (9, 0))), some (.inl p), some (.inl u), some (.inl n), some (.inl best), some (.inr (.inl least)), none, some (.inl w), x, y]) (st' := [.inl (-1), .inl best]) (σ' := σ) 2 rfl ?_
  refine zX_c1 rfl (fun a1 => ?_) (fun a1 => ?_)
  · skip
    refine zX_run (n' := 82) (ls' := [some (.inr (.inr (9, 0))), some (.inl p), some (.inl u), some (.inl n), some (.inl best), some (.inr (.inl least)), none, some (.inl w), x, y]) (st' := [.inl u]) (σ' := σ) 1 rfl ?_
    refine zX_i1 rfl (fun a2 => ?_) (fun a2 => ?_)
    · skip
      refine zX_run (n' := 87) (ls' := [some (.inr (.inr (9, 0))), some (.inl p), some (.inl u), some (.inl n), some (.inl best), some (.inr (.inl least)), none, some (.inl w), x, y]) (st' := [.inr (.inl least)]) (σ' := σ) 1 rfl ?_
      exact zX_retL rfl rfl (h1 a1 a2)
    · skip
      refine zX_run (n' := 87) (ls' := [some (.inr (.inr (9, 0))), some (.inl p), some (.inl u), some (.inl n), some (.inl best), some (.inr (.inl least)), none, some (.inl w), x, y]) (st' := [.inr (.inl best)]) (σ' := σ) 3 rfl ?_
      exact zX_retL rfl rfl (h2 a1 a2)
  · skip
    refine zX_run (n' := 80) (ls' := [some (.inr (.inr (9, 0))), some (.inl p), some (.inl u), some (.inl n), some (.inl best), some (.inr (.inl least)), none, some (.inl w), x, y]) (st' := [.inr (.inl (-5))]) (σ' := σ) 1 rfl ?_
    exact zX_retL rfl rfl (h3 a1)
