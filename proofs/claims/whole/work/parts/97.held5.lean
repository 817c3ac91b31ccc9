-- held, the reference's blocks (wip/whole/gen/laws69.py)
-- X10_held
theorem zb_181 {d : Nat} {σ : zS} {Q : Option zV → zS → Prop} {p : Int} {u : Int}
    (h1 : p < 0 → Q (some (.inr (.inl (-4611686018427387904)))) σ)
    (h2 : ¬ p < 0 → 2000000000 < p → Q (some (.inr (.inl (-4611686018427387904)))) σ)
    (h3 : ¬ p < 0 → ¬ 2000000000 < p → u < 0 → Q (some (.inr (.inl (-4611686018427387904)))) σ)
    (h4 : ¬ p < 0 → ¬ 2000000000 < p → ¬ u < 0 → u ≤ 1 → zX (d + 10) 181 16 [some (.inr (.inr (10, 0))), some (.inl p), some (.inl u), some (.inl 0), some (.inl 0), none, none, none, none, none, none, none, none, none, none, none] [] σ Q)
    (h5 : ¬ p < 0 → ¬ 2000000000 < p → ¬ u < 0 → ¬ u ≤ 1 → Q (some (.inr (.inl (-4611686018427387904)))) σ) :
    zM (d + 10) 181 [.inr (.inr (10, 0)), .inl p, .inl u] σ Q := by
  refine zX_run (n' := 1) (ls' := [some (.inr (.inr (10, 0))), some (.inl p), some (.inl u), none, none, none, none, none, none, none, none, none, none, none, none, none]) (st' := [.inl p]) (σ' := σ) 1 rfl ?_
  refine zX_i2 rfl (fun a1 => ?_) (fun a1 => ?_)
  · skip
    refine zX_run (n' := 11) (ls' := [some (.inr (.inr (10, 0))), some (.inl p), some (.inl u), none, none, none, none, none, none, none, none, none, none, none, none, none]) (st' := [.inr (.inl (-4611686018427387904))]) (σ' := σ) 1 rfl ?_
    exact zX_retL rfl rfl (h1 a1)
  · skip
    refine zX_run (n' := 4) (ls' := [some (.inr (.inr (10, 0))), some (.inl p), some (.inl u), none, none, none, none, none, none, none, none, none, none, none, none, none]) (st' := [.inl 2000000000, .inl p]) (σ' := σ) 2 rfl ?_
    refine zX_c4 rfl (fun a2 => ?_) (fun a2 => ?_)
    · skip
      refine zX_run (n' := 11) (ls' := [some (.inr (.inr (10, 0))), some (.inl p), some (.inl u), none, none, none, none, none, none, none, none, none, none, none, none, none]) (st' := [.inr (.inl (-4611686018427387904))]) (σ' := σ) 1 rfl ?_
      exact zX_retL rfl rfl (h2 a1 a2)
    · skip
      refine zX_run (n' := 6) (ls' := [some (.inr (.inr (10, 0))), some (.inl p), some (.inl u), none, none, none, none, none, none, none, none, none, none, none, none, none]) (st' := [.inl u]) (σ' := σ) 1 rfl ?_
      refine zX_i2 rfl (fun a3 => ?_) (fun a3 => ?_)
      · skip
        refine zX_run (n' := 11) (ls' := [some (.inr (.inr (10, 0))), some (.inl p), some (.inl u), none, none, none, none, none, none, none, none, none, none, none, none, none]) (st' := [.inr (.inl (-4611686018427387904))]) (σ' := σ) 1 rfl ?_
        exact zX_retL rfl rfl (h3 a1 a2 a3)
      · skip
        refine zX_run (n' := 9) (ls' := [some (.inr (.inr (10, 0))), some (.inl p), some (.inl u), none, none, none, none, none, none, none, none, none, none, none, none, none]) (st' := [.inl 1, .inl u]) (σ' := σ) 2 rfl ?_
        refine zX_c5 rfl (fun a4 => ?_) (fun a4 => ?_)
        · skip
          refine zX_run (n' := 16) (ls' := [some (.inr (.inr (10, 0))), some (.inl p), some (.inl u), some (.inl 0), some (.inl 0), none, none, none, none, none, none, none, none, none, none, none]) (st' := []) (σ' := σ) 4 rfl ?_
          exact h4 a1 a2 a3 a4
        · skip
          refine zX_run (n' := 11) (ls' := [some (.inr (.inr (10, 0))), some (.inl p), some (.inl u), none, none, none, none, none, none, none, none, none, none, none, none, none]) (st' := [.inr (.inl (-4611686018427387904))]) (σ' := σ) 1 rfl ?_
          exact zX_retL rfl rfl (h5 a1 a2 a3 a4)
-- X10_held
theorem zb_181a {d : Nat} {σ : zS} {Q : Option zV → zS → Prop} {p u n : Int} {r : Int} {x5 x6 x7 x8 x9 x10 x11 x12 x13 x14 x15 : Option zV}
    (o1 : ¬ 7 ≤ r → (0 : Int) ≤ r ∧ r < (7 : Int))
    (o2 : ¬ 7 ≤ r → ¬ σ.1 55 0 (r.toNat) = 0 → (0 : Int) ≤ n ∧ n < (7 : Int))
    (h1 : 7 ≤ r → zX (d + 10) 181 40 [some (.inr (.inr (10, 0))), some (.inl p), some (.inl u), some (.inl n), some (.inl r), x5, x6, x7, x8, x9, x10, x11, x12, x13, x14, x15] [] σ Q)
    (h2 : ¬ 7 ≤ r → σ.1 55 0 (r.toNat) = 0 → zX (d + 10) 181 16 [some (.inr (.inr (10, 0))), some (.inl p), some (.inl u), some (.inl n), some (.inl (zW (r + 1))), x5, x6, x7, x8, x9, x10, x11, x12, x13, x14, x15] [] (zU σ 104 0 (r.toNat) (σ.1 59 0 (r.toNat))) Q)
    (h3 : ¬ 7 ≤ r → ¬ σ.1 55 0 (r.toNat) = 0 → zX (d + 10) 181 16 [some (.inr (.inr (10, 0))), some (.inl p), some (.inl u), some (.inl (zW (n + 1))), some (.inl (zW (r + 1))), x5, x6, x7, x8, x9, x10, x11, x12, x13, x14, x15] [] (zU (zU σ 104 0 (r.toNat) (σ.1 59 0 (r.toNat))) 103 0 (n.toNat) r) Q) :
    zX (d + 10) 181 16 [some (.inr (.inr (10, 0))), some (.inl p), some (.inl u), some (.inl n), some (.inl r), x5, x6, x7, x8, x9, x10, x11, x12, x13, x14, x15] [] σ Q := by
  refine zX_run (n' := 18) (ls' := [some (.inr (.inr (10, 0))), some (.inl p), some (.inl u), some (.inl n), some (.inl r), x5, x6, x7, x8, x9, x10, x11, x12, x13, x14, x15]) (st' := [.inl 7, .inl r]) (σ' := σ) 2 rfl ?_
  refine zX_c3 rfl (fun a1 => ?_) (fun a1 => ?_)
  · skip
    exact h1 a1
  · skip
    refine zX_run (n' := 25) (ls' := [some (.inr (.inr (10, 0))), some (.inl p), some (.inl u), some (.inl n), some (.inl r), x5, x6, x7, x8, x9, x10, x11, x12, x13, x14, x15]) (st' := [.inl r, .inr (.inr (59, 0)), .inl r, .inr (.inr (104, 0))]) (σ' := σ) 6 rfl ?_
    refine zX_ald1 (L := 7) rfl (by decide) rfl (o1 a1) ?_
    refine zX_ast1 (L := 7) rfl (by decide) rfl (o1 a1) ?_
    refine zX_run (n' := 30) (ls' := [some (.inr (.inr (10, 0))), some (.inl p), some (.inl u), some (.inl n), some (.inl r), x5, x6, x7, x8, x9, x10, x11, x12, x13, x14, x15]) (st' := [.inl r, .inr (.inr (55, 0))]) (σ' := (zU σ 104 0 (r.toNat) (σ.1 59 0 (r.toNat)))) 3 rfl ?_
    refine zX_ald4 (L := 7) rfl (by decide) rfl (o1 a1) ?_
    refine zX_i0 rfl (fun a2 => ?_) (fun a2 => ?_)
    · skip
      refine zX_run (n' := 16) (ls' := [some (.inr (.inr (10, 0))), some (.inl p), some (.inl u), some (.inl n), some (.inl (zW (r + 1))), x5, x6, x7, x8, x9, x10, x11, x12, x13, x14, x15]) (st' := []) (σ' := (zU σ 104 0 (r.toNat) (σ.1 59 0 (r.toNat)))) 2 rfl ?_
      exact h2 a1 a2
    · skip
      refine zX_run (n' := 37) (ls' := [some (.inr (.inr (10, 0))), some (.inl p), some (.inl u), some (.inl (zW (n + 1))), some (.inl r), x5, x6, x7, x8, x9, x10, x11, x12, x13, x14, x15]) (st' := [.inl r, .inl n, .inr (.inr (103, 0))]) (σ' := (zU σ 104 0 (r.toNat) (σ.1 59 0 (r.toNat)))) 5 rfl ?_
      refine zX_ast1 (L := 7) rfl (by decide) rfl (o2 a1 a2) ?_
      refine zX_run (n' := 16) (ls' := [some (.inr (.inr (10, 0))), some (.inl p), some (.inl u), some (.inl (zW (n + 1))), some (.inl (zW (r + 1))), x5, x6, x7, x8, x9, x10, x11, x12, x13, x14, x15]) (st' := []) (σ' := (zU (zU σ 104 0 (r.toNat) (σ.1 59 0 (r.toNat))) 103 0 (n.toNat) r)) 2 rfl ?_
      exact h3 a1 a2
-- X10_held
theorem zb_181b {d : Nat} {σ : zS} {Q : Option zV → zS → Prop} {p u n : Int} {x4 x5 x6 x7 x8 x9 x10 x11 x12 x13 x14 x15 : Option zV}
    (h1 : n ≤ 3 → zX (d + 10) 181 49 [some (.inr (.inr (10, 0))), some (.inl p), some (.inl u), some (.inl n), some (.inl 1), some (.inl 0), x6, x7, x8, x9, x10, x11, x12, x13, x14, x15] [] σ Q)
    (h2 : ¬ n ≤ 3 → Q (some (.inr (.inl (-6)))) σ) :
    zX (d + 10) 181 40 [some (.inr (.inr (10, 0))), some (.inl p), some (.inl u), some (.inl n), x4, x5, x6, x7, x8, x9, x10, x11, x12, x13, x14, x15] [] σ Q := by
  refine zX_run (n' := 42) (ls' := [some (.inr (.inr (10, 0))), some (.inl p), some (.inl u), some (.inl n), x4, x5, x6, x7, x8, x9, x10, x11, x12, x13, x14, x15]) (st' := [.inl 3, .inl n]) (σ' := σ) 2 rfl ?_
  refine zX_c5 rfl (fun a1 => ?_) (fun a1 => ?_)
  · skip
    refine zX_run (n' := 49) (ls' := [some (.inr (.inr (10, 0))), some (.inl p), some (.inl u), some (.inl n), some (.inl 1), some (.inl 0), x6, x7, x8, x9, x10, x11, x12, x13, x14, x15]) (st' := []) (σ' := σ) 4 rfl ?_
    exact h1 a1
  · skip
    refine zX_run (n' := 44) (ls' := [some (.inr (.inr (10, 0))), some (.inl p), some (.inl u), some (.inl n), x4, x5, x6, x7, x8, x9, x10, x11, x12, x13, x14, x15]) (st' := [.inr (.inl (-6))]) (σ' := σ) 1 rfl ?_
    exact zX_retL rfl rfl (h2 a1)
-- X10_held
theorem zb_181c {d : Nat} {σ : zS} {Q : Option zV → zS → Prop} {p u n : Int} {a i : Int} {x6 x7 x8 x9 x10 x11 x12 x13 x14 x15 : Option zV}
    (h1 : n ≤ i → zX (d + 10) 181 58 [some (.inr (.inr (10, 0))), some (.inl p), some (.inl u), some (.inl n), some (.inl a), some (.inl i), x6, x7, x8, x9, x10, x11, x12, x13, x14, x15] [] σ Q)
    (h2 : ¬ n ≤ i → zX (d + 10) 181 49 [some (.inr (.inr (10, 0))), some (.inl p), some (.inl u), some (.inl n), some (.inl (zW (a * 4))), some (.inl (zW (i + 1))), x6, x7, x8, x9, x10, x11, x12, x13, x14, x15] [] σ Q) :
    zX (d + 10) 181 49 [some (.inr (.inr (10, 0))), some (.inl p), some (.inl u), some (.inl n), some (.inl a), some (.inl i), x6, x7, x8, x9, x10, x11, x12, x13, x14, x15] [] σ Q := by
  refine zX_run (n' := 51) (ls' := [some (.inr (.inr (10, 0))), some (.inl p), some (.inl u), some (.inl n), some (.inl a), some (.inl i), x6, x7, x8, x9, x10, x11, x12, x13, x14, x15]) (st' := [.inl n, .inl i]) (σ' := σ) 2 rfl ?_
  refine zX_c3 rfl (fun a1 => ?_) (fun a1 => ?_)
  · skip
    exact h1 a1
  · skip
    refine zX_run (n' := 49) (ls' := [some (.inr (.inr (10, 0))), some (.inl p), some (.inl u), some (.inl n), some (.inl (zW (a * 4))), some (.inl (zW (i + 1))), x6, x7, x8, x9, x10, x11, x12, x13, x14, x15]) (st' := []) (σ' := σ) 6 rfl ?_
    exact h2 a1
-- X10_held
theorem zb_181d {d : Nat} {σ : zS} {Q : Option zV → zS → Prop} {p u n : Int} {a i : Int} {x6 x7 x8 x9 x10 x11 x12 x13 x14 x15 : Option zV}
    (h1 : zX (d + 10) 181 64 [some (.inr (.inr (10, 0))), some (.inl p), some (.inl u), some (.inl n), some (.inl a), some (.inl (-1)), some (.inr (.inl 0)), none, some (.inl 0), x9, x10, x11, x12, x13, x14, x15] [] σ Q) :
    zX (d + 10) 181 58 [some (.inr (.inr (10, 0))), some (.inl p), some (.inl u), some (.inl n), some (.inl a), some (.inl i), x6, x7, x8, x9, x10, x11, x12, x13, x14, x15] [] σ Q := by
  refine zX_run (n' := 64) (ls' := [some (.inr (.inr (10, 0))), some (.inl p), some (.inl u), some (.inl n), some (.inl a), some (.inl (-1)), some (.inr (.inl 0)), none, some (.inl 0), x9, x10, x11, x12, x13, x14, x15]) (st' := []) (σ' := σ) 6 rfl ?_
  exact h1
-- X10_held
theorem zb_181e {d : Nat} {σ : zS} {Q : Option zV → zS → Prop} {p u n a best least w : Int} {x9 x10 x11 x12 x13 x14 x15 : Option zV}
    (h1 : a ≤ w → zX (d + 10) 181 189 [some (.inr (.inr (10, 0))), some (.inl p), some (.inl u), some (.inl n), some (.inl a), some (.inl best), some (.inr (.inl least)), none, some (.inl w), x9, x10, x11, x12, x13, x14, x15] [] σ Q)
    (h2 : ¬ a ≤ w → zX (d + 10) 181 73 [some (.inr (.inr (10, 0))), some (.inl p), some (.inl u), some (.inl n), some (.inl a), some (.inl best), some (.inr (.inl least)), none, some (.inl w), some (.inl w), some (.inl (zW (n - 1))), x11, x12, x13, x14, x15] [] σ Q) :
    zX (d + 10) 181 64 [some (.inr (.inr (10, 0))), some (.inl p), some (.inl u), some (.inl n), some (.inl a), some (.inl best), some (.inr (.inl least)), none, some (.inl w), x9, x10, x11, x12, x13, x14, x15] [] σ Q := by
  refine zX_run (n' := 66) (ls' := [some (.inr (.inr (10, 0))), some (.inl p), some (.inl u), some (.inl n), some (.inl a), some (.inl best), some (.inr (.inl least)), none, some (.inl w), x9, x10, x11, x12, x13, x14, x15]) (st' := [.inl a, .inl w]) (σ' := σ) 2 rfl ?_
  refine zX_c3 rfl (fun a1 => ?_) (fun a1 => ?_)
  · skip
    exact h1 a1
  · skip
    refine zX_run (n' := 73) (ls' := [some (.inr (.inr (10, 0))), some (.inl p), some (.inl u), some (.inl n), some (.inl a), some (.inl best), some (.inr (.inl least)), none, some (.inl w), some (.inl w), some (.inl (zW (n - 1))), x11, x12, x13, x14, x15]) (st' := []) (σ' := σ) 6 rfl ?_
    exact h2 a1
-- X10_held
theorem zb_181f {d : Nat} {σ : zS} {Q : Option zV → zS → Prop} {p u n a best least w : Int} {q i : Int} {x11 x12 x13 x14 x15 : Option zV}
    (o1 : ¬ i < 0 → (0 : Int) ≤ i ∧ i < (7 : Int))
    (o2 : ¬ i < 0 → ¬ zW (q - zW (zW (q.tdiv 4) * 4)) = 0 → ¬ zW (q - zW (zW (q.tdiv 4) * 4)) = 1 → ¬ zW (q - zW (zW (q.tdiv 4) * 4)) = 2 → (0 : Int) ≤ σ.1 103 0 (i.toNat) ∧ σ.1 103 0 (i.toNat) < (7 : Int))
    (o3 : ¬ i < 0 → ¬ zW (q - zW (zW (q.tdiv 4) * 4)) = 0 → ¬ zW (q - zW (zW (q.tdiv 4) * 4)) = 1 → zW (q - zW (zW (q.tdiv 4) * 4)) = 2 → (0 : Int) ≤ σ.1 103 0 (i.toNat) ∧ σ.1 103 0 (i.toNat) < (7 : Int))
    (o4 : ¬ i < 0 → ¬ zW (q - zW (zW (q.tdiv 4) * 4)) = 0 → zW (q - zW (zW (q.tdiv 4) * 4)) = 1 → (0 : Int) ≤ σ.1 103 0 (i.toNat) ∧ σ.1 103 0 (i.toNat) < (7 : Int))
    (o5 : ¬ i < 0 → zW (q - zW (zW (q.tdiv 4) * 4)) = 0 → (0 : Int) ≤ σ.1 103 0 (i.toNat) ∧ σ.1 103 0 (i.toNat) < (7 : Int))
    (h1 : i < 0 → zX (d + 10) 181 122 [some (.inr (.inr (10, 0))), some (.inl p), some (.inl u), some (.inl n), some (.inl a), some (.inl best), some (.inr (.inl least)), none, some (.inl w), some (.inl q), some (.inl i), x11, x12, x13, x14, x15] [] σ Q)
    (h2 : ¬ i < 0 → ¬ zW (q - zW (zW (q.tdiv 4) * 4)) = 0 → ¬ zW (q - zW (zW (q.tdiv 4) * 4)) = 1 → ¬ zW (q - zW (zW (q.tdiv 4) * 4)) = 2 → zX (d + 10) 181 73 [some (.inr (.inr (10, 0))), some (.inl p), some (.inl u), some (.inl n), some (.inl a), some (.inl best), some (.inr (.inl least)), none, some (.inl w), some (.inl (zW (q.tdiv 4))), some (.inl (zW (i + (-1)))), some (.inl (σ.1 103 0 (i.toNat))), some (.inl (zW (q - zW (zW (q.tdiv 4) * 4)))), x13, x14, x15] [] (zU σ 59 0 ((σ.1 103 0 (i.toNat)).toNat) (zW (2 * (σ.1 104 0 ((σ.1 103 0 (i.toNat)).toNat))))) Q)
    (h3 : ¬ i < 0 → ¬ zW (q - zW (zW (q.tdiv 4) * 4)) = 0 → ¬ zW (q - zW (zW (q.tdiv 4) * 4)) = 1 → zW (q - zW (zW (q.tdiv 4) * 4)) = 2 → zX (d + 10) 181 73 [some (.inr (.inr (10, 0))), some (.inl p), some (.inl u), some (.inl n), some (.inl a), some (.inl best), some (.inr (.inl least)), none, some (.inl w), some (.inl (zW (q.tdiv 4))), some (.inl (zW (i + (-1)))), some (.inl (σ.1 103 0 (i.toNat))), some (.inl (zW (q - zW (zW (q.tdiv 4) * 4)))), x13, x14, x15] [] (zU σ 59 0 ((σ.1 103 0 (i.toNat)).toNat) (σ.1 104 0 ((σ.1 103 0 (i.toNat)).toNat))) Q)
    (h4 : ¬ i < 0 → ¬ zW (q - zW (zW (q.tdiv 4) * 4)) = 0 → zW (q - zW (zW (q.tdiv 4) * 4)) = 1 → zX (d + 10) 181 73 [some (.inr (.inr (10, 0))), some (.inl p), some (.inl u), some (.inl n), some (.inl a), some (.inl best), some (.inr (.inl least)), none, some (.inl w), some (.inl (zW (q.tdiv 4))), some (.inl (zW (i + (-1)))), some (.inl (σ.1 103 0 (i.toNat))), some (.inl (zW (q - zW (zW (q.tdiv 4) * 4)))), x13, x14, x15] [] (zU σ 59 0 ((σ.1 103 0 (i.toNat)).toNat) (zW ((σ.1 104 0 ((σ.1 103 0 (i.toNat)).toNat)).tdiv 2))) Q)
    (h5 : ¬ i < 0 → zW (q - zW (zW (q.tdiv 4) * 4)) = 0 → zX (d + 10) 181 73 [some (.inr (.inr (10, 0))), some (.inl p), some (.inl u), some (.inl n), some (.inl a), some (.inl best), some (.inr (.inl least)), none, some (.inl w), some (.inl (zW (q.tdiv 4))), some (.inl (zW (i + (-1)))), some (.inl (σ.1 103 0 (i.toNat))), some (.inl (zW (q - zW (zW (q.tdiv 4) * 4)))), x13, x14, x15] [] (zU σ 59 0 ((σ.1 103 0 (i.toNat)).toNat) 0) Q) :
    zX (d + 10) 181 73 [some (.inr (.inr (10, 0))), some (.inl p), some (.inl u), some (.inl n), some (.inl a), some (.inl best), some (.inr (.inl least)), none, some (.inl w), some (.inl q), some (.inl i), x11, x12, x13, x14, x15] [] σ Q := by
  refine zX_run (n' := 74) (ls' := [some (.inr (.inr (10, 0))), some (.inl p), some (.inl u), some (.inl n), some (.inl a), some (.inl best), some (.inr (.inl least)), none, some (.inl w), some (.inl q), some (.inl i), x11, x12, x13, x14, x15]) (st' := [.inl i]) (σ' := σ) 1 rfl ?_
  refine zX_i2 rfl (fun a1 => ?_) (fun a1 => ?_)
  · skip
    exact h1 a1
  · skip
    refine zX_run (n' := 78) (ls' := [some (.inr (.inr (10, 0))), some (.inl p), some (.inl u), some (.inl n), some (.inl a), some (.inl best), some (.inr (.inl least)), none, some (.inl w), some (.inl q), some (.inl i), x11, x12, x13, x14, x15]) (st' := [.inl i, .inr (.inr (103, 0))]) (σ' := σ) 3 rfl ?_
    refine zX_ald1 (L := 7) rfl (by decide) rfl (o1 a1) ?_
    refine zX_run (n' := 92) (ls' := [some (.inr (.inr (10, 0))), some (.inl p), some (.inl u), some (.inl n), some (.inl a), some (.inl best), some (.inr (.inl least)), none, some (.inl w), some (.inl (zW (q.tdiv 4))), some (.inl i), some (.inl (σ.1 103 0 (i.toNat))), some (.inl (zW (q - zW (zW (q.tdiv 4) * 4)))), x13, x14, x15]) (st' := [.inl (zW (q - zW (zW (q.tdiv 4) * 4))), .inl (σ.1 103 0 (i.toNat)), .inr (.inr (59, 0))]) (σ' := σ) 13 rfl ?_
    refine zX_i1 rfl (fun a2 => ?_) (fun a2 => ?_)
    · skip
      refine zX_run (n' := 97) (ls' := [some (.inr (.inr (10, 0))), some (.inl p), some (.inl u), some (.inl n), some (.inl a), some (.inl best), some (.inr (.inl least)), none, some (.inl w), some (.inl (zW (q.tdiv 4))), some (.inl i), some (.inl (σ.1 103 0 (i.toNat))), some (.inl (zW (q - zW (zW (q.tdiv 4) * 4)))), x13, x14, x15]) (st' := [.inl 1, .inl (zW (q - zW (zW (q.tdiv 4) * 4))), .inl (σ.1 103 0 (i.toNat)), .inr (.inr (59, 0))]) (σ' := σ) 2 rfl ?_
      refine zX_c1 rfl (fun a3 => ?_) (fun a3 => ?_)
      · skip
        refine zX_run (n' := 107) (ls' := [some (.inr (.inr (10, 0))), some (.inl p), some (.inl u), some (.inl n), some (.inl a), some (.inl best), some (.inr (.inl least)), none, some (.inl w), some (.inl (zW (q.tdiv 4))), some (.inl i), some (.inl (σ.1 103 0 (i.toNat))), some (.inl (zW (q - zW (zW (q.tdiv 4) * 4)))), x13, x14, x15]) (st' := [.inl 2, .inl (zW (q - zW (zW (q.tdiv 4) * 4))), .inl (σ.1 103 0 (i.toNat)), .inr (.inr (59, 0))]) (σ' := σ) 2 rfl ?_
        refine zX_c1 rfl (fun a4 => ?_) (fun a4 => ?_)
        · skip
          refine zX_run (n' := 117) (ls' := [some (.inr (.inr (10, 0))), some (.inl p), some (.inl u), some (.inl n), some (.inl a), some (.inl best), some (.inr (.inl least)), none, some (.inl w), some (.inl (zW (q.tdiv 4))), some (.inl i), some (.inl (σ.1 103 0 (i.toNat))), some (.inl (zW (q - zW (zW (q.tdiv 4) * 4)))), x13, x14, x15]) (st' := [.inl (σ.1 103 0 (i.toNat)), .inr (.inr (104, 0)), .inl 2, .inl (σ.1 103 0 (i.toNat)), .inr (.inr (59, 0))]) (σ' := σ) 4 rfl ?_
          refine zX_ald1 (L := 7) rfl (by decide) rfl (o2 a1 a2 a3 a4) ?_
          refine zX_run (n' := 119) (ls' := [some (.inr (.inr (10, 0))), some (.inl p), some (.inl u), some (.inl n), some (.inl a), some (.inl best), some (.inr (.inl least)), none, some (.inl w), some (.inl (zW (q.tdiv 4))), some (.inl i), some (.inl (σ.1 103 0 (i.toNat))), some (.inl (zW (q - zW (zW (q.tdiv 4) * 4)))), x13, x14, x15]) (st' := [.inl (zW (2 * (σ.1 104 0 ((σ.1 103 0 (i.toNat)).toNat)))), .inl (σ.1 103 0 (i.toNat)), .inr (.inr (59, 0))]) (σ' := σ) 1 rfl ?_
          refine zX_ast1 (L := 7) rfl (by decide) rfl (o2 a1 a2 a3 a4) ?_
          refine zX_run (n' := 73) (ls' := [some (.inr (.inr (10, 0))), some (.inl p), some (.inl u), some (.inl n), some (.inl a), some (.inl best), some (.inr (.inl least)), none, some (.inl w), some (.inl (zW (q.tdiv 4))), some (.inl (zW (i + (-1)))), some (.inl (σ.1 103 0 (i.toNat))), some (.inl (zW (q - zW (zW (q.tdiv 4) * 4)))), x13, x14, x15]) (st' := []) (σ' := (zU σ 59 0 ((σ.1 103 0 (i.toNat)).toNat) (zW (2 * (σ.1 104 0 ((σ.1 103 0 (i.toNat)).toNat)))))) 2 rfl ?_
          exact h2 a1 a2 a3 a4
        · skip
          refine zX_run (n' := 111) (ls' := [some (.inr (.inr (10, 0))), some (.inl p), some (.inl u), some (.inl n), some (.inl a), some (.inl best), some (.inr (.inl least)), none, some (.inl w), some (.inl (zW (q.tdiv 4))), some (.inl i), some (.inl (σ.1 103 0 (i.toNat))), some (.inl (zW (q - zW (zW (q.tdiv 4) * 4)))), x13, x14, x15]) (st' := [.inl (σ.1 103 0 (i.toNat)), .inr (.inr (104, 0)), .inl (σ.1 103 0 (i.toNat)), .inr (.inr (59, 0))]) (σ' := σ) 3 rfl ?_
          refine zX_ald1 (L := 7) rfl (by decide) rfl (o3 a1 a2 a3 a4) ?_
          refine zX_run (n' := 119) (ls' := [some (.inr (.inr (10, 0))), some (.inl p), some (.inl u), some (.inl n), some (.inl a), some (.inl best), some (.inr (.inl least)), none, some (.inl w), some (.inl (zW (q.tdiv 4))), some (.inl i), some (.inl (σ.1 103 0 (i.toNat))), some (.inl (zW (q - zW (zW (q.tdiv 4) * 4)))), x13, x14, x15]) (st' := [.inl (σ.1 104 0 ((σ.1 103 0 (i.toNat)).toNat)), .inl (σ.1 103 0 (i.toNat)), .inr (.inr (59, 0))]) (σ' := σ) 1 rfl ?_
          refine zX_ast1 (L := 7) rfl (by decide) rfl (o3 a1 a2 a3 a4) ?_
          refine zX_run (n' := 73) (ls' := [some (.inr (.inr (10, 0))), some (.inl p), some (.inl u), some (.inl n), some (.inl a), some (.inl best), some (.inr (.inl least)), none, some (.inl w), some (.inl (zW (q.tdiv 4))), some (.inl (zW (i + (-1)))), some (.inl (σ.1 103 0 (i.toNat))), some (.inl (zW (q - zW (zW (q.tdiv 4) * 4)))), x13, x14, x15]) (st' := []) (σ' := (zU σ 59 0 ((σ.1 103 0 (i.toNat)).toNat) (σ.1 104 0 ((σ.1 103 0 (i.toNat)).toNat)))) 2 rfl ?_
          exact h3 a1 a2 a3 a4
      · skip
        refine zX_run (n' := 101) (ls' := [some (.inr (.inr (10, 0))), some (.inl p), some (.inl u), some (.inl n), some (.inl a), some (.inl best), some (.inr (.inl least)), none, some (.inl w), some (.inl (zW (q.tdiv 4))), some (.inl i), some (.inl (σ.1 103 0 (i.toNat))), some (.inl (zW (q - zW (zW (q.tdiv 4) * 4)))), x13, x14, x15]) (st' := [.inl (σ.1 103 0 (i.toNat)), .inr (.inr (104, 0)), .inl (σ.1 103 0 (i.toNat)), .inr (.inr (59, 0))]) (σ' := σ) 3 rfl ?_
        refine zX_ald1 (L := 7) rfl (by decide) rfl (o4 a1 a2 a3) ?_
        refine zX_run (n' := 119) (ls' := [some (.inr (.inr (10, 0))), some (.inl p), some (.inl u), some (.inl n), some (.inl a), some (.inl best), some (.inr (.inl least)), none, some (.inl w), some (.inl (zW (q.tdiv 4))), some (.inl i), some (.inl (σ.1 103 0 (i.toNat))), some (.inl (zW (q - zW (zW (q.tdiv 4) * 4)))), x13, x14, x15]) (st' := [.inl (zW ((σ.1 104 0 ((σ.1 103 0 (i.toNat)).toNat)).tdiv 2)), .inl (σ.1 103 0 (i.toNat)), .inr (.inr (59, 0))]) (σ' := σ) 3 rfl ?_
        refine zX_ast1 (L := 7) rfl (by decide) rfl (o4 a1 a2 a3) ?_
        refine zX_run (n' := 73) (ls' := [some (.inr (.inr (10, 0))), some (.inl p), some (.inl u), some (.inl n), some (.inl a), some (.inl best), some (.inr (.inl least)), none, some (.inl w), some (.inl (zW (q.tdiv 4))), some (.inl (zW (i + (-1)))), some (.inl (σ.1 103 0 (i.toNat))), some (.inl (zW (q - zW (zW (q.tdiv 4) * 4)))), x13, x14, x15]) (st' := []) (σ' := (zU σ 59 0 ((σ.1 103 0 (i.toNat)).toNat) (zW ((σ.1 104 0 ((σ.1 103 0 (i.toNat)).toNat)).tdiv 2)))) 2 rfl ?_
        exact h4 a1 a2 a3
    · skip
      refine zX_run (n' := 119) (ls' := [some (.inr (.inr (10, 0))), some (.inl p), some (.inl u), some (.inl n), some (.inl a), some (.inl best), some (.inr (.inl least)), none, some (.inl w), some (.inl (zW (q.tdiv 4))), some (.inl i), some (.inl (σ.1 103 0 (i.toNat))), some (.inl (zW (q - zW (zW (q.tdiv 4) * 4)))), x13, x14, x15]) (st' := [.inl 0, .inl (σ.1 103 0 (i.toNat)), .inr (.inr (59, 0))]) (σ' := σ) 2 rfl ?_
      refine zX_ast1 (L := 7) rfl (by decide) rfl (o5 a1 a2) ?_
      refine zX_run (n' := 73) (ls' := [some (.inr (.inr (10, 0))), some (.inl p), some (.inl u), some (.inl n), some (.inl a), some (.inl best), some (.inr (.inl least)), none, some (.inl w), some (.inl (zW (q.tdiv 4))), some (.inl (zW (i + (-1)))), some (.inl (σ.1 103 0 (i.toNat))), some (.inl (zW (q - zW (zW (q.tdiv 4) * 4)))), x13, x14, x15]) (st' := []) (σ' := (zU σ 59 0 ((σ.1 103 0 (i.toNat)).toNat) 0)) 2 rfl ?_
      exact h5 a1 a2
-- X10_held
theorem zb_181g {d : Nat} {σ : zS} {Q : Option zV → zS → Prop} {p u n a best least w : Int} {q i : Int} {x11 x12 x13 x14 x15 : Option zV}
    (h1 : zX (d + 10) 181 123 [some (.inr (.inr (10, 0))), some (.inl p), some (.inl u), some (.inl n), some (.inl a), some (.inl best), some (.inr (.inl least)), none, some (.inl w), some (.inl q), some (.inl i), x11, x12, x13, x14, x15] [.inr (.inr (10, 0))] σ Q) :
    zX (d + 10) 181 122 [some (.inr (.inr (10, 0))), some (.inl p), some (.inl u), some (.inl n), some (.inl a), some (.inl best), some (.inr (.inl least)), none, some (.inl w), some (.inl q), some (.inl i), x11, x12, x13, x14, x15] [] σ Q := by
  refine zX_run (n' := 123) (ls' := [some (.inr (.inr (10, 0))), some (.inl p), some (.inl u), some (.inl n), some (.inl a), some (.inl best), some (.inr (.inl least)), none, some (.inl w), some (.inl q), some (.inl i), x11, x12, x13, x14, x15]) (st' := [.inr (.inr (10, 0))]) (σ' := σ) 1 rfl ?_
  exact h1
-- X10_held
theorem zb_181h {d : Nat} {σ : zS} {Q : Option zV → zS → Prop} {p u n a best least w : Int} {q i : Int} {x11 x12 x13 x14 x15 : Option zV}
    (h1 : zX (d + 10) 181 130 [some (.inr (.inr (10, 0))), some (.inl p), some (.inl u), some (.inl n), some (.inl a), some (.inl best), some (.inr (.inl least)), none, some (.inl w), some (.inl q), some (.inr (.inl 0)), none, some (.inr (.inl 0)), none, some (.inl 0), x15] [] σ Q) :
    zX (d + 10) 181 124 [some (.inr (.inr (10, 0))), some (.inl p), some (.inl u), some (.inl n), some (.inl a), some (.inl best), some (.inr (.inl least)), none, some (.inl w), some (.inl q), some (.inl i), x11, x12, x13, x14, x15] [] σ Q := by
  refine zX_run (n' := 130) (ls' := [some (.inr (.inr (10, 0))), some (.inl p), some (.inl u), some (.inl n), some (.inl a), some (.inl best), some (.inr (.inl least)), none, some (.inl w), some (.inl q), some (.inr (.inl 0)), none, some (.inr (.inl 0)), none, some (.inl 0), x15]) (st' := []) (σ' := σ) 6 rfl ?_
  exact h1
-- X10_held
theorem zb_181i {d : Nat} {σ : zS} {Q : Option zV → zS → Prop} {p u n a best least w : Int} {q mk gn m : Int} {x15 : Option zV}
    (h1 : 96 ≤ m → zX (d + 10) 181 171 [some (.inr (.inr (10, 0))), some (.inl p), some (.inl u), some (.inl n), some (.inl a), some (.inl best), some (.inr (.inl least)), none, some (.inl w), some (.inl q), some (.inr (.inl mk)), none, some (.inr (.inl gn)), none, some (.inl m), x15] [] σ Q)
    (h2 : ¬ 96 ≤ m → zX (d + 10) 181 135 [some (.inr (.inr (10, 0))), some (.inl p), some (.inl u), some (.inl n), some (.inl a), some (.inl best), some (.inr (.inl least)), none, some (.inl w), some (.inl q), some (.inr (.inl mk)), none, some (.inr (.inl gn)), none, some (.inl m), some (.inl 0)] [] σ Q) :
    zX (d + 10) 181 130 [some (.inr (.inr (10, 0))), some (.inl p), some (.inl u), some (.inl n), some (.inl a), some (.inl best), some (.inr (.inl least)), none, some (.inl w), some (.inl q), some (.inr (.inl mk)), none, some (.inr (.inl gn)), none, some (.inl m), x15] [] σ Q := by
  refine zX_run (n' := 132) (ls' := [some (.inr (.inr (10, 0))), some (.inl p), some (.inl u), some (.inl n), some (.inl a), some (.inl best), some (.inr (.inl least)), none, some (.inl w), some (.inl q), some (.inr (.inl mk)), none, some (.inr (.inl gn)), none, some (.inl m), x15]) (st' := [.inl 96, .inl m]) (σ' := σ) 2 rfl ?_
  refine zX_c3 rfl (fun a1 => ?_) (fun a1 => ?_)
  · skip
    exact h1 a1
  · skip
    refine zX_run (n' := 135) (ls' := [some (.inr (.inr (10, 0))), some (.inl p), some (.inl u), some (.inl n), some (.inl a), some (.inl best), some (.inr (.inl least)), none, some (.inl w), some (.inl q), some (.inr (.inl mk)), none, some (.inr (.inl gn)), none, some (.inl m), some (.inl 0)]) (st' := []) (σ' := σ) 2 rfl ?_
    exact h2 a1
-- X10_held
theorem zb_181j {d : Nat} {σ : zS} {Q : Option zV → zS → Prop} {p u n a best least w : Int} {q mk gn m : Int} {i : Int}
    (o1 : ¬ n ≤ i → (0 : Int) ≤ i ∧ i < (7 : Int))
    (o2 : ¬ n ≤ i → (0 : Int) ≤ zW ((zW (7 * m)) + (σ.1 103 0 (i.toNat))) ∧ zW ((zW (7 * m)) + (σ.1 103 0 (i.toNat))) < (672 : Int))
    (h1 : n ≤ i → zX (d + 10) 181 130 [some (.inr (.inr (10, 0))), some (.inl p), some (.inl u), some (.inl n), some (.inl a), some (.inl best), some (.inr (.inl least)), none, some (.inl w), some (.inl q), some (.inr (.inl mk)), none, some (.inr (.inl gn)), none, some (.inl (zW (m + 1))), some (.inl i)] [] σ Q)
    (h2 : ¬ n ≤ i → zX (d + 10) 181 135 [some (.inr (.inr (10, 0))), some (.inl p), some (.inl u), some (.inl n), some (.inl a), some (.inl best), some (.inr (.inl least)), none, some (.inl w), some (.inl q), some (.inr (.inl (zWl (mk + (σ.2 86 0 ((zW ((zW (7 * m)) + (σ.1 103 0 (i.toNat)))).toNat)))))), none, some (.inr (.inl (zWl (gn + (σ.1 88 0 ((zW ((zW (7 * m)) + (σ.1 103 0 (i.toNat)))).toNat)))))), none, some (.inl m), some (.inl (zW (i + 1)))] [] σ Q) :
    zX (d + 10) 181 135 [some (.inr (.inr (10, 0))), some (.inl p), some (.inl u), some (.inl n), some (.inl a), some (.inl best), some (.inr (.inl least)), none, some (.inl w), some (.inl q), some (.inr (.inl mk)), none, some (.inr (.inl gn)), none, some (.inl m), some (.inl i)] [] σ Q := by
  refine zX_run (n' := 137) (ls' := [some (.inr (.inr (10, 0))), some (.inl p), some (.inl u), some (.inl n), some (.inl a), some (.inl best), some (.inr (.inl least)), none, some (.inl w), some (.inl q), some (.inr (.inl mk)), none, some (.inr (.inl gn)), none, some (.inl m), some (.inl i)]) (st' := [.inl n, .inl i]) (σ' := σ) 2 rfl ?_
  refine zX_c3 rfl (fun a1 => ?_) (fun a1 => ?_)
  · skip
    refine zX_run (n' := 130) (ls' := [some (.inr (.inr (10, 0))), some (.inl p), some (.inl u), some (.inl n), some (.inl a), some (.inl best), some (.inr (.inl least)), none, some (.inl w), some (.inl q), some (.inr (.inl mk)), none, some (.inr (.inl gn)), none, some (.inl (zW (m + 1))), some (.inl i)]) (st' := []) (σ' := σ) 2 rfl ?_
    exact h1 a1
  · skip
    refine zX_run (n' := 147) (ls' := [some (.inr (.inr (10, 0))), some (.inl p), some (.inl u), some (.inl n), some (.inl a), some (.inl best), some (.inr (.inl least)), none, some (.inl w), some (.inl q), some (.inr (.inl mk)), none, some (.inr (.inl gn)), none, some (.inl m), some (.inl i)]) (st' := [.inl i, .inr (.inr (103, 0)), .inl (zW (7 * m)), .inr (.inr (86, 0)), .inr (.inl mk)]) (σ' := σ) 9 rfl ?_
    refine zX_ald1 (L := 7) rfl (by decide) rfl (o1 a1) ?_
    refine zX_run (n' := 149) (ls' := [some (.inr (.inr (10, 0))), some (.inl p), some (.inl u), some (.inl n), some (.inl a), some (.inl best), some (.inr (.inl least)), none, some (.inl w), some (.inl q), some (.inr (.inl mk)), none, some (.inr (.inl gn)), none, some (.inl m), some (.inl i)]) (st' := [.inl (zW ((zW (7 * m)) + (σ.1 103 0 (i.toNat)))), .inr (.inr (86, 0)), .inr (.inl mk)]) (σ' := σ) 1 rfl ?_
    refine zX_ald2 (L := 672) rfl (by decide) rfl (o2 a1) ?_
    refine zX_run (n' := 161) (ls' := [some (.inr (.inr (10, 0))), some (.inl p), some (.inl u), some (.inl n), some (.inl a), some (.inl best), some (.inr (.inl least)), none, some (.inl w), some (.inl q), some (.inr (.inl (zWl (mk + (σ.2 86 0 ((zW ((zW (7 * m)) + (σ.1 103 0 (i.toNat)))).toNat)))))), none, some (.inr (.inl gn)), none, some (.inl m), some (.inl i)]) (st' := [.inl i, .inr (.inr (103, 0)), .inl (zW (7 * m)), .inr (.inr (88, 0)), .inr (.inl gn)]) (σ' := σ) 11 rfl ?_
    refine zX_ald1 (L := 7) rfl (by decide) rfl (o1 a1) ?_
    refine zX_run (n' := 163) (ls' := [some (.inr (.inr (10, 0))), some (.inl p), some (.inl u), some (.inl n), some (.inl a), some (.inl best), some (.inr (.inl least)), none, some (.inl w), some (.inl q), some (.inr (.inl (zWl (mk + (σ.2 86 0 ((zW ((zW (7 * m)) + (σ.1 103 0 (i.toNat)))).toNat)))))), none, some (.inr (.inl gn)), none, some (.inl m), some (.inl i)]) (st' := [.inl (zW ((zW (7 * m)) + (σ.1 103 0 (i.toNat)))), .inr (.inr (88, 0)), .inr (.inl gn)]) (σ' := σ) 1 rfl ?_
    refine zX_ald1 (L := 672) rfl (by decide) rfl (o2 a1) ?_
    refine zX_run (n' := 135) (ls' := [some (.inr (.inr (10, 0))), some (.inl p), some (.inl u), some (.inl n), some (.inl a), some (.inl best), some (.inr (.inl least)), none, some (.inl w), some (.inl q), some (.inr (.inl (zWl (mk + (σ.2 86 0 ((zW ((zW (7 * m)) + (σ.1 103 0 (i.toNat)))).toNat)))))), none, some (.inr (.inl (zWl (gn + (σ.1 88 0 ((zW ((zW (7 * m)) + (σ.1 103 0 (i.toNat)))).toNat)))))), none, some (.inl m), some (.inl (zW (i + 1)))]) (st' := []) (σ' := σ) 5 rfl ?_
    exact h2 a1
-- X10_held
theorem zb_181k {d : Nat} {σ : zS} {Q : Option zV → zS → Prop} {p u n a best least w : Int} {q mk gn m : Int} {x15 : Option zV}
    (h1 : p < mk → best = (-1) → zX (d + 10) 181 187 [some (.inr (.inr (10, 0))), some (.inl p), some (.inl u), some (.inl n), some (.inl a), some (.inl w), some (.inr (.inl gn)), none, some (.inl w), some (.inl q), some (.inr (.inl mk)), none, some (.inr (.inl gn)), none, some (.inl m), x15] [] σ Q)
    (h2 : p < mk → ¬ best = (-1) → least < gn → zX (d + 10) 181 187 [some (.inr (.inr (10, 0))), some (.inl p), some (.inl u), some (.inl n), some (.inl a), some (.inl best), some (.inr (.inl least)), none, some (.inl w), some (.inl q), some (.inr (.inl mk)), none, some (.inr (.inl gn)), none, some (.inl m), x15] [] σ Q)
    (h3 : p < mk → ¬ best = (-1) → gn = least → zX (d + 10) 181 187 [some (.inr (.inr (10, 0))), some (.inl p), some (.inl u), some (.inl n), some (.inl a), some (.inl best), some (.inr (.inl least)), none, some (.inl w), some (.inl q), some (.inr (.inl mk)), none, some (.inr (.inl gn)), none, some (.inl m), x15] [] σ Q)
    (h4 : p < mk → ¬ best = (-1) → gn < least → zX (d + 10) 181 187 [some (.inr (.inr (10, 0))), some (.inl p), some (.inl u), some (.inl n), some (.inl a), some (.inl w), some (.inr (.inl gn)), none, some (.inl w), some (.inl q), some (.inr (.inl mk)), none, some (.inr (.inl gn)), none, some (.inl m), x15] [] σ Q)
    (h5 : mk = p → best = (-1) → zX (d + 10) 181 187 [some (.inr (.inr (10, 0))), some (.inl p), some (.inl u), some (.inl n), some (.inl a), some (.inl w), some (.inr (.inl gn)), none, some (.inl w), some (.inl q), some (.inr (.inl mk)), none, some (.inr (.inl gn)), none, some (.inl m), x15] [] σ Q)
    (h6 : mk = p → ¬ best = (-1) → least < gn → zX (d + 10) 181 187 [some (.inr (.inr (10, 0))), some (.inl p), some (.inl u), some (.inl n), some (.inl a), some (.inl best), some (.inr (.inl least)), none, some (.inl w), some (.inl q), some (.inr (.inl mk)), none, some (.inr (.inl gn)), none, some (.inl m), x15] [] σ Q)
    (h7 : mk = p → ¬ best = (-1) → gn = least → zX (d + 10) 181 187 [some (.inr (.inr (10, 0))), some (.inl p), some (.inl u), some (.inl n), some (.inl a), some (.inl best), some (.inr (.inl least)), none, some (.inl w), some (.inl q), some (.inr (.inl mk)), none, some (.inr (.inl gn)), none, some (.inl m), x15] [] σ Q)
    (h8 : mk = p → ¬ best = (-1) → gn < least → zX (d + 10) 181 187 [some (.inr (.inr (10, 0))), some (.inl p), some (.inl u), some (.inl n), some (.inl a), some (.inl w), some (.inr (.inl gn)), none, some (.inl w), some (.inl q), some (.inr (.inl mk)), none, some (.inr (.inl gn)), none, some (.inl m), x15] [] σ Q)
    (h9 : mk < p → zX (d + 10) 181 187 [some (.inr (.inr (10, 0))), some (.inl p), some (.inl u), some (.inl n), some (.inl a), some (.inl best), some (.inr (.inl least)), none, some (.inl w), some (.inl q), some (.inr (.inl mk)), none, some (.inr (.inl gn)), none, some (.inl m), x15] [] σ Q) :
    zX (d + 10) 181 171 [some (.inr (.inr (10, 0))), some (.inl p), some (.inl u), some (.inl n), some (.inl a), some (.inl best), some (.inr (.inl least)), none, some (.inl w), some (.inl q), some (.inr (.inl mk)), none, some (.inr (.inl gn)), none, some (.inl m), x15] [] σ Q := by
  refine zX_run (n' := 174) (ls' := [some (.inr (.inr (10, 0))), some (.inl p), some (.inl u), some (.inl n), some (.inl a), some (.inl best), some (.inr (.inl least)), none, some (.inl w), some (.inl q), some (.inr (.inl mk)), none, some (.inr (.inl gn)), none, some (.inl m), x15]) (st' := [.inr (.inl p), .inr (.inl mk)]) (σ' := σ) 3 rfl ?_
  refine zX_lc rfl (fun a1 => ?_) (fun a1 => ?_) (fun a1 => ?_)
  · skip
    refine zX_run (n' := 178) (ls' := [some (.inr (.inr (10, 0))), some (.inl p), some (.inl u), some (.inl n), some (.inl a), some (.inl best), some (.inr (.inl least)), none, some (.inl w), some (.inl q), some (.inr (.inl mk)), none, some (.inr (.inl gn)), none, some (.inl m), x15]) (st' := [.inl (-1), .inl best]) (σ' := σ) 3 rfl ?_
    refine zX_c0 rfl (fun a2 => ?_) (fun a2 => ?_)
    · skip
      refine zX_run (n' := 187) (ls' := [some (.inr (.inr (10, 0))), some (.inl p), some (.inl u), some (.inl n), some (.inl a), some (.inl w), some (.inr (.inl gn)), none, some (.inl w), some (.inl q), some (.inr (.inl mk)), none, some (.inr (.inl gn)), none, some (.inl m), x15]) (st' := []) (σ' := σ) 4 rfl ?_
      exact h1 a1 a2
    · skip
      refine zX_run (n' := 181) (ls' := [some (.inr (.inr (10, 0))), some (.inl p), some (.inl u), some (.inl n), some (.inl a), some (.inl best), some (.inr (.inl least)), none, some (.inl w), some (.inl q), some (.inr (.inl mk)), none, some (.inr (.inl gn)), none, some (.inl m), x15]) (st' := [.inr (.inl least), .inr (.inl gn)]) (σ' := σ) 2 rfl ?_
      refine zX_lc rfl (fun a3 => ?_) (fun a3 => ?_) (fun a3 => ?_)
      · skip
        refine zX_run (n' := 187) (ls' := [some (.inr (.inr (10, 0))), some (.inl p), some (.inl u), some (.inl n), some (.inl a), some (.inl best), some (.inr (.inl least)), none, some (.inl w), some (.inl q), some (.inr (.inl mk)), none, some (.inr (.inl gn)), none, some (.inl m), x15]) (st' := []) (σ' := σ) 1 rfl ?_
        exact h2 a1 a2 a3
      · skip
        refine zX_run (n' := 187) (ls' := [some (.inr (.inr (10, 0))), some (.inl p), some (.inl u), some (.inl n), some (.inl a), some (.inl best), some (.inr (.inl least)), none, some (.inl w), some (.inl q), some (.inr (.inl mk)), none, some (.inr (.inl gn)), none, some (.inl m), x15]) (st' := []) (σ' := σ) 1 rfl ?_
        exact h3 a1 a2 a3
      · skip
        refine zX_run (n' := 187) (ls' := [some (.inr (.inr (10, 0))), some (.inl p), some (.inl u), some (.inl n), some (.inl a), some (.inl w), some (.inr (.inl gn)), none, some (.inl w), some (.inl q), some (.inr (.inl mk)), none, some (.inr (.inl gn)), none, some (.inl m), x15]) (st' := []) (σ' := σ) 5 rfl ?_
        exact h4 a1 a2 a3
  · skip
    refine zX_run (n' := 178) (ls' := [some (.inr (.inr (10, 0))), some (.inl p), some (.inl u), some (.inl n), some (.inl a), some (.inl best), some (.inr (.inl least)), none, some (.inl w), some (.inl q), some (.inr (.inl mk)), none, some (.inr (.inl gn)), none, some (.inl m), x15]) (st' := [.inl (-1), .inl best]) (σ' := σ) 3 rfl ?_
    refine zX_c0 rfl (fun a4 => ?_) (fun a4 => ?_)
    · skip
      refine zX_run (n' := 187) (ls' := [some (.inr (.inr (10, 0))), some (.inl p), some (.inl u), some (.inl n), some (.inl a), some (.inl w), some (.inr (.inl gn)), none, some (.inl w), some (.inl q), some (.inr (.inl mk)), none, some (.inr (.inl gn)), none, some (.inl m), x15]) (st' := []) (σ' := σ) 4 rfl ?_
      exact h5 a1 a4
    · skip
      refine zX_run (n' := 181) (ls' := [some (.inr (.inr (10, 0))), some (.inl p), some (.inl u), some (.inl n), some (.inl a), some (.inl best), some (.inr (.inl least)), none, some (.inl w), some (.inl q), some (.inr (.inl mk)), none, some (.inr (.inl gn)), none, some (.inl m), x15]) (st' := [.inr (.inl least), .inr (.inl gn)]) (σ' := σ) 2 rfl ?_
      refine zX_lc rfl (fun a5 => ?_) (fun a5 => ?_) (fun a5 => ?_)
      · skip
        refine zX_run (n' := 187) (ls' := [some (.inr (.inr (10, 0))), some (.inl p), some (.inl u), some (.inl n), some (.inl a), some (.inl best), some (.inr (.inl least)), none, some (.inl w), some (.inl q), some (.inr (.inl mk)), none, some (.inr (.inl gn)), none, some (.inl m), x15]) (st' := []) (σ' := σ) 1 rfl ?_
        exact h6 a1 a4 a5
      · skip
        refine zX_run (n' := 187) (ls' := [some (.inr (.inr (10, 0))), some (.inl p), some (.inl u), some (.inl n), some (.inl a), some (.inl best), some (.inr (.inl least)), none, some (.inl w), some (.inl q), some (.inr (.inl mk)), none, some (.inr (.inl gn)), none, some (.inl m), x15]) (st' := []) (σ' := σ) 1 rfl ?_
        exact h7 a1 a4 a5
      · skip
        refine zX_run (n' := 187) (ls' := [some (.inr (.inr (10, 0))), some (.inl p), some (.inl u), some (.inl n), some (.inl a), some (.inl w), some (.inr (.inl gn)), none, some (.inl w), some (.inl q), some (.inr (.inl mk)), none, some (.inr (.inl gn)), none, some (.inl m), x15]) (st' := []) (σ' := σ) 5 rfl ?_
        exact h8 a1 a4 a5
  · skip
    refine zX_run (n' := 187) (ls' := [some (.inr (.inr (10, 0))), some (.inl p), some (.inl u), some (.inl n), some (.inl a), some (.inl best), some (.inr (.inl least)), none, some (.inl w), some (.inl q), some (.inr (.inl mk)), none, some (.inr (.inl gn)), none, some (.inl m), x15]) (st' := []) (σ' := σ) 1 rfl ?_
    exact h9 a1
-- X10_held
theorem zb_181l {d : Nat} {σ : zS} {Q : Option zV → zS → Prop} {p u n a best least w : Int} {x9 x10 x11 x12 x13 x14 x15 : Option zV}
    (h1 : zX (d + 10) 181 64 [some (.inr (.inr (10, 0))), some (.inl p), some (.inl u), some (.inl n), some (.inl a), some (.inl best), some (.inr (.inl least)), none, some (.inl (zW (w + 1))), x9, x10, x11, x12, x13, x14, x15] [] σ Q) :
    zX (d + 10) 181 187 [some (.inr (.inr (10, 0))), some (.inl p), some (.inl u), some (.inl n), some (.inl a), some (.inl best), some (.inr (.inl least)), none, some (.inl w), x9, x10, x11, x12, x13, x14, x15] [] σ Q := by
  refine zX_run (n' := 64) (ls' := [some (.inr (.inr (10, 0))), some (.inl p), some (.inl u), some (.inl n), some (.inl a), some (.inl best), some (.inr (.inl least)), none, some (.inl (zW (w + 1))), x9, x10, x11, x12, x13, x14, x15]) (st' := []) (σ' := σ) 2 rfl ?_
  exact h1
-- X10_held
theorem zb_181m {d : Nat} {σ : zS} {Q : Option zV → zS → Prop} {p u n a best least w : Int} {x9 x10 x11 x12 x13 x14 x15 : Option zV}
    (h1 : zX (d + 10) 181 191 [some (.inr (.inr (10, 0))), some (.inl p), some (.inl u), some (.inl n), some (.inl a), some (.inl best), some (.inr (.inl least)), none, some (.inl 0), x9, x10, x11, x12, x13, x14, x15] [] σ Q) :
    zX (d + 10) 181 189 [some (.inr (.inr (10, 0))), some (.inl p), some (.inl u), some (.inl n), some (.inl a), some (.inl best), some (.inr (.inl least)), none, some (.inl w), x9, x10, x11, x12, x13, x14, x15] [] σ Q := by
  refine zX_run (n' := 191) (ls' := [some (.inr (.inr (10, 0))), some (.inl p), some (.inl u), some (.inl n), some (.inl a), some (.inl best), some (.inr (.inl least)), none, some (.inl 0), x9, x10, x11, x12, x13, x14, x15]) (st' := []) (σ' := σ) 2 rfl ?_
  exact h1
-- X10_held
theorem zb_181n {d : Nat} {σ : zS} {Q : Option zV → zS → Prop} {p u n a best least w : Int} {x9 x10 x11 x12 x13 x14 x15 : Option zV}
    (o1 : ¬ n ≤ w → (0 : Int) ≤ w ∧ w < (7 : Int))
    (o2 : ¬ n ≤ w → (0 : Int) ≤ σ.1 103 0 (w.toNat) ∧ σ.1 103 0 (w.toNat) < (7 : Int))
    (h1 : n ≤ w → zX (d + 10) 181 210 [some (.inr (.inr (10, 0))), some (.inl p), some (.inl u), some (.inl n), some (.inl a), some (.inl best), some (.inr (.inl least)), none, some (.inl w), x9, x10, x11, x12, x13, x14, x15] [] σ Q)
    (h2 : ¬ n ≤ w → zX (d + 10) 181 191 [some (.inr (.inr (10, 0))), some (.inl p), some (.inl u), some (.inl n), some (.inl a), some (.inl best), some (.inr (.inl least)), none, some (.inl (zW (w + 1))), x9, x10, x11, x12, x13, x14, x15] [] (zU σ 59 0 ((σ.1 103 0 (w.toNat)).toNat) (σ.1 104 0 ((σ.1 103 0 (w.toNat)).toNat))) Q) :
    zX (d + 10) 181 191 [some (.inr (.inr (10, 0))), some (.inl p), some (.inl u), some (.inl n), some (.inl a), some (.inl best), some (.inr (.inl least)), none, some (.inl w), x9, x10, x11, x12, x13, x14, x15] [] σ Q := by
  refine zX_run (n' := 193) (ls' := [some (.inr (.inr (10, 0))), some (.inl p), some (.inl u), some (.inl n), some (.inl a), some (.inl best), some (.inr (.inl least)), none, some (.inl w), x9, x10, x11, x12, x13, x14, x15]) (st' := [.inl n, .inl w]) (σ' := σ) 2 rfl ?_
  refine zX_c3 rfl (fun a1 => ?_) (fun a1 => ?_)
  · skip
    exact h1 a1
  · skip
    refine zX_run (n' := 199) (ls' := [some (.inr (.inr (10, 0))), some (.inl p), some (.inl u), some (.inl n), some (.inl a), some (.inl best), some (.inr (.inl least)), none, some (.inl w), x9, x10, x11, x12, x13, x14, x15]) (st' := [.inl w, .inr (.inr (103, 0)), .inr (.inr (59, 0))]) (σ' := σ) 5 rfl ?_
    refine zX_ald1 (L := 7) rfl (by decide) rfl (o1 a1) ?_
    refine zX_run (n' := 205) (ls' := [some (.inr (.inr (10, 0))), some (.inl p), some (.inl u), some (.inl n), some (.inl a), some (.inl best), some (.inr (.inl least)), none, some (.inl w), x9, x10, x11, x12, x13, x14, x15]) (st' := [.inl w, .inr (.inr (103, 0)), .inr (.inr (104, 0)), .inl (σ.1 103 0 (w.toNat)), .inr (.inr (59, 0))]) (σ' := σ) 5 rfl ?_
    refine zX_ald1 (L := 7) rfl (by decide) rfl (o1 a1) ?_
    refine zX_ald1 (L := 7) rfl (by decide) rfl (o2 a1) ?_
    refine zX_ast1 (L := 7) rfl (by decide) rfl (o2 a1) ?_
    refine zX_run (n' := 191) (ls' := [some (.inr (.inr (10, 0))), some (.inl p), some (.inl u), some (.inl n), some (.inl a), some (.inl best), some (.inr (.inl least)), none, some (.inl (zW (w + 1))), x9, x10, x11, x12, x13, x14, x15]) (st' := []) (σ' := (zU σ 59 0 ((σ.1 103 0 (w.toNat)).toNat) (σ.1 104 0 ((σ.1 103 0 (w.toNat)).toNat)))) 2 rfl ?_
    exact h2 a1
-- X10_held
theorem zb_181o {d : Nat} {σ : zS} {Q : Option zV → zS → Prop} {p u n a best least w : Int} {x9 x10 x11 x12 x13 x14 x15 : Option zV}
    (h1 : ¬ best = (-1) → ¬ u = 0 → Q (some (.inr (.inl least))) σ)
    (h2 : ¬ best = (-1) → u = 0 → Q (some (.inr (.inl best))) σ)
    (h3 : best = (-1) → Q (some (.inr (.inl (-5)))) σ) :
    zX (d + 10) 181 210 [some (.inr (.inr (10, 0))), some (.inl p), some (.inl u), some (.inl n), some (.inl a), some (.inl best), some (.inr (.inl least)), none, some (.inl w), x9, x10, x11, x12, x13, x14, x15] [] σ Q := by
  refine zX_run (n' := 212) (ls' := [some (.inr (.inr (10, 0))), some (.inl p), some (.inl u), some (.inl n), some (.inl a), some (.inl best), some (.inr (.inl least)), none, some (.inl w), x9, x10, x11, x12, x13, x14, x15]) (st' := [.inl (-1), .inl best]) (σ' := σ) 2 rfl ?_
  refine zX_c1 rfl (fun a1 => ?_) (fun a1 => ?_)
  · skip
    refine zX_run (n' := 216) (ls' := [some (.inr (.inr (10, 0))), some (.inl p), some (.inl u), some (.inl n), some (.inl a), some (.inl best), some (.inr (.inl least)), none, some (.inl w), x9, x10, x11, x12, x13, x14, x15]) (st' := [.inl u]) (σ' := σ) 1 rfl ?_
    refine zX_i1 rfl (fun a2 => ?_) (fun a2 => ?_)
    · skip
      refine zX_run (n' := 221) (ls' := [some (.inr (.inr (10, 0))), some (.inl p), some (.inl u), some (.inl n), some (.inl a), some (.inl best), some (.inr (.inl least)), none, some (.inl w), x9, x10, x11, x12, x13, x14, x15]) (st' := [.inr (.inl least)]) (σ' := σ) 1 rfl ?_
      exact zX_retL rfl rfl (h1 a1 a2)
    · skip
      refine zX_run (n' := 221) (ls' := [some (.inr (.inr (10, 0))), some (.inl p), some (.inl u), some (.inl n), some (.inl a), some (.inl best), some (.inr (.inl least)), none, some (.inl w), x9, x10, x11, x12, x13, x14, x15]) (st' := [.inr (.inl best)]) (σ' := σ) 3 rfl ?_
      exact zX_retL rfl rfl (h2 a1 a2)
  · skip
    refine zX_run (n' := 221) (ls' := [some (.inr (.inr (10, 0))), some (.inl p), some (.inl u), some (.inl n), some (.inl a), some (.inl best), some (.inr (.inl least)), none, some (.inl w), x9, x10, x11, x12, x13, x14, x15]) (st' := [.inr (.inl (-5))]) (σ' := σ) 2 rfl ?_
    exact zX_retL rfl rfl (h3 a1)
