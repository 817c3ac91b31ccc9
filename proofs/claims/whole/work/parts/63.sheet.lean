-- sheets made anew (wip/whole/gen/laws38.py)
-- J7_fill_53178
theorem zb_190l {d : Nat} {σ : zS} {Q : Option zV → zS → Prop} {g : Nat} {v n k : Int}
    (o1 : ¬ k ≤ n → (0 : Int) ≤ n ∧ n < (40 : Int))
    (h1 : k ≤ n → Q (none) σ)
    (h2 : ¬ k ≤ n → zX (d + 1) 190 5 [some (.inr (.inr (32, g))), some (.inl v), some (.inl (zW (n + 1))), some (.inl k)] [] (zU σ 32 g (n.toNat) v) Q) :
    zX (d + 1) 190 5 [some (.inr (.inr (32, g))), some (.inl v), some (.inl n), some (.inl k)] [] σ Q := by
  refine zX_run (n' := 7) (ls' := [some (.inr (.inr (32, g))), some (.inl v), some (.inl n), some (.inl k)]) (st' := [.inl k, .inl n]) (σ' := σ) 2 rfl ?_
  refine zX_c3 rfl (fun a1 => ?_) (fun a1 => ?_)
  · skip
    exact zX_ret0 rfl rfl (h1 a1)
  · skip
    refine zX_run (n' := 11) (ls' := [some (.inr (.inr (32, g))), some (.inl v), some (.inl n), some (.inl k)]) (st' := [.inl v, .inl n, .inr (.inr (32, g))]) (σ' := σ) 3 rfl ?_
    refine zX_ast1 (L := 40) rfl (by decide) rfl (o1 a1) ?_
    refine zX_run (n' := 5) (ls' := [some (.inr (.inr (32, g))), some (.inl v), some (.inl (zW (n + 1))), some (.inl k)]) (st' := []) (σ' := (zU σ 32 g (n.toNat) v)) 2 rfl ?_
    exact h2 a1
-- J7_fill_53178
theorem zb_190 {d : Nat} {σ : zS} {Q : Option zV → zS → Prop} {g : Nat} {v : Int}
    (h1 : zX (d + 1) 190 5 [some (.inr (.inr (32, g))), some (.inl v), some (.inl 0), some (.inl 40)] [] σ Q) :
    zM (d + 1) 190 [.inr (.inr (32, g)), .inl v] σ Q := by
  refine zX_run (n' := 3) (ls' := [some (.inr (.inr (32, g))), some (.inl v), some (.inl 0), none]) (st' := [.inr (.inr (32, g))]) (σ' := σ) 3 rfl ?_
  refine zX_len (L := 40) (v := 40) rfl (by decide) rfl (by decide) ?_
  refine zX_run (n' := 5) (ls' := [some (.inr (.inr (32, g))), some (.inl v), some (.inl 0), some (.inl 40)]) (st' := []) (σ' := σ) 1 rfl ?_
  exact h1
-- X10_sheet
theorem zb_184 {d : Nat} {σ : zS} {Q : Option zV → zS → Prop} {s : Int} {o : Int} {n : Int}
    (o1 : ¬ s < 0 → ¬ 3 < s → ¬ o < (-1) → ¬ 2 < o → o < 0 → (0 : Int) ≤ s ∧ s < (4 : Int))
    (o2 : ¬ s < 0 → ¬ 3 < s → ¬ o < (-1) → ¬ 2 < o → ¬ o < 0 → n ≤ 40 → 0 ≤ n → (0 : Int) ≤ s ∧ s < (4 : Int))
    (h1 : s < 0 → Q (some (.inl (-2))) σ)
    (h2 : ¬ s < 0 → 3 < s → Q (some (.inl (-2))) σ)
    (h3 : ¬ s < 0 → ¬ 3 < s → o < (-1) → Q (some (.inl (-2))) σ)
    (h4 : ¬ s < 0 → ¬ 3 < s → ¬ o < (-1) → 2 < o → Q (some (.inl (-2))) σ)
    (h5 : ¬ s < 0 → ¬ 3 < s → ¬ o < (-1) → ¬ 2 < o → o < 0 → 0 ≤ o → zX (d + 3) 184 40 [some (.inr (.inr (10, 0))), some (.inl s), some (.inl o), some (.inl n), some (.inl 0)] [] (zU (zU σ 74 0 (s.toNat) o) 75 0 (s.toNat) n) Q)
    (h6 : ¬ s < 0 → ¬ 3 < s → ¬ o < (-1) → ¬ 2 < o → o < 0 → ¬ 0 ≤ o → zX (d + 3) 184 40 [some (.inr (.inr (10, 0))), some (.inl s), some (.inl o), some (.inl n), some (.inl 0)] [] (zU (zU σ 74 0 (s.toNat) o) 75 0 (s.toNat) 0) Q)
    (h7 : ¬ s < 0 → ¬ 3 < s → ¬ o < (-1) → ¬ 2 < o → ¬ o < 0 → n ≤ 40 → 0 ≤ n → 0 ≤ o → zX (d + 3) 184 40 [some (.inr (.inr (10, 0))), some (.inl s), some (.inl o), some (.inl n), some (.inl 0)] [] (zU (zU σ 74 0 (s.toNat) o) 75 0 (s.toNat) n) Q)
    (h8 : ¬ s < 0 → ¬ 3 < s → ¬ o < (-1) → ¬ 2 < o → ¬ o < 0 → n ≤ 40 → 0 ≤ n → ¬ 0 ≤ o → zX (d + 3) 184 40 [some (.inr (.inr (10, 0))), some (.inl s), some (.inl o), some (.inl n), some (.inl 0)] [] (zU (zU σ 74 0 (s.toNat) o) 75 0 (s.toNat) 0) Q)
    (h9 : ¬ s < 0 → ¬ 3 < s → ¬ o < (-1) → ¬ 2 < o → ¬ o < 0 → n ≤ 40 → ¬ 0 ≤ n → Q (some (.inl (-14))) σ)
    (h10 : ¬ s < 0 → ¬ 3 < s → ¬ o < (-1) → ¬ 2 < o → ¬ o < 0 → ¬ n ≤ 40 → Q (some (.inl (-2))) σ) :
    zM (d + 3) 184 [.inr (.inr (10, 0)), .inl s, .inl o, .inl n] σ Q := by
  refine zX_run (n' := 1) (ls' := [some (.inr (.inr (10, 0))), some (.inl s), some (.inl o), some (.inl n), none]) (st' := [.inl s]) (σ' := σ) 1 rfl ?_
  refine zX_i2 rfl (fun a1 => ?_) (fun a1 => ?_)
  · skip
    refine zX_run (n' := 17) (ls' := [some (.inr (.inr (10, 0))), some (.inl s), some (.inl o), some (.inl n), none]) (st' := [.inl (-2)]) (σ' := σ) 1 rfl ?_
    exact zX_ret rfl rfl (h1 a1)
  · skip
    refine zX_run (n' := 4) (ls' := [some (.inr (.inr (10, 0))), some (.inl s), some (.inl o), some (.inl n), none]) (st' := [.inl 3, .inl s]) (σ' := σ) 2 rfl ?_
    refine zX_c4 rfl (fun a2 => ?_) (fun a2 => ?_)
    · skip
      refine zX_run (n' := 17) (ls' := [some (.inr (.inr (10, 0))), some (.inl s), some (.inl o), some (.inl n), none]) (st' := [.inl (-2)]) (σ' := σ) 1 rfl ?_
      exact zX_ret rfl rfl (h2 a1 a2)
    · skip
      refine zX_run (n' := 7) (ls' := [some (.inr (.inr (10, 0))), some (.inl s), some (.inl o), some (.inl n), none]) (st' := [.inl (-1), .inl o]) (σ' := σ) 2 rfl ?_
      refine zX_c2 rfl (fun a3 => ?_) (fun a3 => ?_)
      · skip
        refine zX_run (n' := 17) (ls' := [some (.inr (.inr (10, 0))), some (.inl s), some (.inl o), some (.inl n), none]) (st' := [.inl (-2)]) (σ' := σ) 1 rfl ?_
        exact zX_ret rfl rfl (h3 a1 a2 a3)
      · skip
        refine zX_run (n' := 10) (ls' := [some (.inr (.inr (10, 0))), some (.inl s), some (.inl o), some (.inl n), none]) (st' := [.inl 2, .inl o]) (σ' := σ) 2 rfl ?_
        refine zX_c4 rfl (fun a4 => ?_) (fun a4 => ?_)
        · skip
          refine zX_run (n' := 17) (ls' := [some (.inr (.inr (10, 0))), some (.inl s), some (.inl o), some (.inl n), none]) (st' := [.inl (-2)]) (σ' := σ) 1 rfl ?_
          exact zX_ret rfl rfl (h4 a1 a2 a3 a4)
        · skip
          refine zX_run (n' := 12) (ls' := [some (.inr (.inr (10, 0))), some (.inl s), some (.inl o), some (.inl n), none]) (st' := [.inl o]) (σ' := σ) 1 rfl ?_
          refine zX_i2 rfl (fun a5 => ?_) (fun a5 => ?_)
          · skip
            refine zX_run (n' := 19) (ls' := [some (.inr (.inr (10, 0))), some (.inl s), some (.inl o), some (.inl n), none]) (st' := [.inl o]) (σ' := σ) 1 rfl ?_
            refine zX_i2 rfl (fun _ => ?_) (fun a6 => absurd a6 (by clear h1 h2 h3 h4 h5 h6 h7 h8 h9 h10 o1 o2; omega))
            refine zX_run (n' := 28) (ls' := [some (.inr (.inr (10, 0))), some (.inl s), some (.inl o), some (.inl n), none]) (st' := [.inl o, .inl s, .inr (.inr (74, 0))]) (σ' := σ) 4 rfl ?_
            refine zX_ast1 (L := 4) rfl (by decide) rfl (o1 a1 a2 a3 a4 a5) ?_
            refine zX_run (n' := 33) (ls' := [some (.inr (.inr (10, 0))), some (.inl s), some (.inl o), some (.inl n), none]) (st' := [.inl o, .inl s, .inr (.inr (75, 0))]) (σ' := (zU σ 74 0 (s.toNat) o)) 4 rfl ?_
            refine zX_i3 rfl (fun a7 => ?_) (fun a7 => ?_)
            · skip
              refine zX_run (n' := 37) (ls' := [some (.inr (.inr (10, 0))), some (.inl s), some (.inl o), some (.inl n), none]) (st' := [.inl n, .inl s, .inr (.inr (75, 0))]) (σ' := (zU σ 74 0 (s.toNat) o)) 1 rfl ?_
              refine zX_ast1 (L := 4) rfl (by decide) rfl (o1 a1 a2 a3 a4 a5) ?_
              refine zX_run (n' := 40) (ls' := [some (.inr (.inr (10, 0))), some (.inl s), some (.inl o), some (.inl n), some (.inl 0)]) (st' := []) (σ' := (zU (zU σ 74 0 (s.toNat) o) 75 0 (s.toNat) n)) 2 rfl ?_
              exact h5 a1 a2 a3 a4 a5 a7
            · skip
              refine zX_run (n' := 37) (ls' := [some (.inr (.inr (10, 0))), some (.inl s), some (.inl o), some (.inl n), none]) (st' := [.inl 0, .inl s, .inr (.inr (75, 0))]) (σ' := (zU σ 74 0 (s.toNat) o)) 2 rfl ?_
              refine zX_ast1 (L := 4) rfl (by decide) rfl (o1 a1 a2 a3 a4 a5) ?_
              refine zX_run (n' := 40) (ls' := [some (.inr (.inr (10, 0))), some (.inl s), some (.inl o), some (.inl n), some (.inl 0)]) (st' := []) (σ' := (zU (zU σ 74 0 (s.toNat) o) 75 0 (s.toNat) 0)) 2 rfl ?_
              exact h6 a1 a2 a3 a4 a5 a7
          · skip
            refine zX_run (n' := 15) (ls' := [some (.inr (.inr (10, 0))), some (.inl s), some (.inl o), some (.inl n), none]) (st' := [.inl 40, .inl n]) (σ' := σ) 2 rfl ?_
            refine zX_c5 rfl (fun a8 => ?_) (fun a8 => ?_)
            · skip
              refine zX_run (n' := 19) (ls' := [some (.inr (.inr (10, 0))), some (.inl s), some (.inl o), some (.inl n), none]) (st' := [.inl o]) (σ' := σ) 1 rfl ?_
              refine zX_i2 rfl (fun a9 => absurd a9 (by clear h1 h2 h3 h4 h5 h6 h7 h8 h9 h10 o1 o2; omega)) (fun _ => ?_)
              refine zX_run (n' := 21) (ls' := [some (.inr (.inr (10, 0))), some (.inl s), some (.inl o), some (.inl n), none]) (st' := [.inl n]) (σ' := σ) 1 rfl ?_
              refine zX_i3 rfl (fun a10 => ?_) (fun a10 => ?_)
              · skip
                refine zX_run (n' := 28) (ls' := [some (.inr (.inr (10, 0))), some (.inl s), some (.inl o), some (.inl n), none]) (st' := [.inl o, .inl s, .inr (.inr (74, 0))]) (σ' := σ) 4 rfl ?_
                refine zX_ast1 (L := 4) rfl (by decide) rfl (o2 a1 a2 a3 a4 a5 a8 a10) ?_
                refine zX_run (n' := 33) (ls' := [some (.inr (.inr (10, 0))), some (.inl s), some (.inl o), some (.inl n), none]) (st' := [.inl o, .inl s, .inr (.inr (75, 0))]) (σ' := (zU σ 74 0 (s.toNat) o)) 4 rfl ?_
                refine zX_i3 rfl (fun a11 => ?_) (fun a11 => ?_)
                · skip
                  refine zX_run (n' := 37) (ls' := [some (.inr (.inr (10, 0))), some (.inl s), some (.inl o), some (.inl n), none]) (st' := [.inl n, .inl s, .inr (.inr (75, 0))]) (σ' := (zU σ 74 0 (s.toNat) o)) 1 rfl ?_
                  refine zX_ast1 (L := 4) rfl (by decide) rfl (o2 a1 a2 a3 a4 a5 a8 a10) ?_
                  refine zX_run (n' := 40) (ls' := [some (.inr (.inr (10, 0))), some (.inl s), some (.inl o), some (.inl n), some (.inl 0)]) (st' := []) (σ' := (zU (zU σ 74 0 (s.toNat) o) 75 0 (s.toNat) n)) 2 rfl ?_
                  exact h7 a1 a2 a3 a4 a5 a8 a10 a11
                · skip
                  refine zX_run (n' := 37) (ls' := [some (.inr (.inr (10, 0))), some (.inl s), some (.inl o), some (.inl n), none]) (st' := [.inl 0, .inl s, .inr (.inr (75, 0))]) (σ' := (zU σ 74 0 (s.toNat) o)) 2 rfl ?_
                  refine zX_ast1 (L := 4) rfl (by decide) rfl (o2 a1 a2 a3 a4 a5 a8 a10) ?_
                  refine zX_run (n' := 40) (ls' := [some (.inr (.inr (10, 0))), some (.inl s), some (.inl o), some (.inl n), some (.inl 0)]) (st' := []) (σ' := (zU (zU σ 74 0 (s.toNat) o) 75 0 (s.toNat) 0)) 2 rfl ?_
                  exact h8 a1 a2 a3 a4 a5 a8 a10 a11
              · skip
                refine zX_run (n' := 23) (ls' := [some (.inr (.inr (10, 0))), some (.inl s), some (.inl o), some (.inl n), none]) (st' := [.inl (-14)]) (σ' := σ) 1 rfl ?_
                exact zX_ret rfl rfl (h9 a1 a2 a3 a4 a5 a8 a10)
            · skip
              refine zX_run (n' := 17) (ls' := [some (.inr (.inr (10, 0))), some (.inl s), some (.inl o), some (.inl n), none]) (st' := [.inl (-2)]) (σ' := σ) 1 rfl ?_
              exact zX_ret rfl rfl (h10 a1 a2 a3 a4 a5 a8)
-- X10_sheet
theorem zb_184l {d : Nat} {σ : zS} {Q : Option zV → zS → Prop} {s o n k : Int}
    (o1 : ¬ 40 ≤ k → (0 : Int) ≤ zW ((zW (40 * s)) + k) ∧ zW ((zW (40 * s)) + k) < (160 : Int))
    (h1 : 40 ≤ k → Q (some (.inl 1)) σ)
    (h2 : ¬ 40 ≤ k → zX (d + 3) 184 40 [some (.inr (.inr (10, 0))), some (.inl s), some (.inl o), some (.inl n), some (.inl (zW (k + 1)))] [] (zU σ 76 0 ((zW ((zW (40 * s)) + k)).toNat) 0) Q) :
    zX (d + 3) 184 40 [some (.inr (.inr (10, 0))), some (.inl s), some (.inl o), some (.inl n), some (.inl k)] [] σ Q := by
  refine zX_run (n' := 42) (ls' := [some (.inr (.inr (10, 0))), some (.inl s), some (.inl o), some (.inl n), some (.inl k)]) (st' := [.inl 40, .inl k]) (σ' := σ) 2 rfl ?_
  refine zX_c3 rfl (fun a1 => ?_) (fun a1 => ?_)
  · skip
    refine zX_run (n' := 55) (ls' := [some (.inr (.inr (10, 0))), some (.inl s), some (.inl o), some (.inl n), some (.inl k)]) (st' := [.inl 1]) (σ' := σ) 1 rfl ?_
    exact zX_ret rfl rfl (h1 a1)
  · skip
    refine zX_run (n' := 51) (ls' := [some (.inr (.inr (10, 0))), some (.inl s), some (.inl o), some (.inl n), some (.inl k)]) (st' := [.inl 0, .inl (zW ((zW (40 * s)) + k)), .inr (.inr (76, 0))]) (σ' := σ) 8 rfl ?_
    refine zX_ast1 (L := 160) rfl (by decide) rfl (o1 a1) ?_
    refine zX_run (n' := 40) (ls' := [some (.inr (.inr (10, 0))), some (.inl s), some (.inl o), some (.inl n), some (.inl (zW (k + 1)))]) (st' := []) (σ' := (zU σ 76 0 ((zW ((zW (40 * s)) + k)).toNat) 0)) 2 rfl ?_
    exact h2 a1
-- X6_become
theorem zb_54 {d : Nat} {σ : zS} {Q : Option zV → zS → Prop} {h : Nat} {o : Int} {n : Int}
    (h1 : zX (d + 2) 54 9 [some (.inr (.inr (6, h))), some (.inl o), some (.inl n)] [.inl 0, .inr (.inr (32, h))] (zU (zU σ 6 h 1 o) 6 h 2 n) Q) :
    zM (d + 2) 54 [.inr (.inr (6, h)), .inl o, .inl n] σ Q := by
  refine zX_run (n' := 9) (ls' := [some (.inr (.inr (6, h))), some (.inl o), some (.inl n)]) (st' := [.inl 0, .inr (.inr (32, h))]) (σ' := (zU (zU σ 6 h 1 o) 6 h 2 n)) 9 rfl ?_
  exact h1
-- X9_sheet
theorem zb_99 {d : Nat} {σ : zS} {Q : Option zV → zS → Prop} {s : Int} {o : Int} {n : Int}
    (o1 : 0 ≤ s ∧ s ≤ 3 → (-1) ≤ o ∧ o ≤ 2 → ¬ o = (-1) → n ≤ 40 → 0 ≤ n → (0 : Int) ≤ s ∧ s < (4 : Int))
    (o2 : 0 ≤ s ∧ s ≤ 3 → (-1) ≤ o ∧ o ≤ 2 → o = (-1) → (0 : Int) ≤ s ∧ s < (4 : Int))
    (h1 : 0 ≤ s ∧ s ≤ 3 → (-1) ≤ o ∧ o ≤ 2 → ¬ o = (-1) → n ≤ 40 → 0 ≤ n → zX (d + 14) 99 37 [some (.inr (.inr (9, 0))), some (.inl s), some (.inl o), some (.inl n)] [.inl n, .inl o, .inr (.inr (6, 4 * 0 + s.toNat))] σ Q)
    (h2 : 0 ≤ s ∧ s ≤ 3 → (-1) ≤ o ∧ o ≤ 2 → ¬ o = (-1) → n ≤ 40 → ¬ 0 ≤ n → Q (some (.inl (-14))) σ)
    (h3 : 0 ≤ s ∧ s ≤ 3 → (-1) ≤ o ∧ o ≤ 2 → ¬ o = (-1) → ¬ n ≤ 40 → Q (some (.inl (-2))) σ)
    (h4 : 0 ≤ s ∧ s ≤ 3 → (-1) ≤ o ∧ o ≤ 2 → o = (-1) → zX (d + 14) 99 19 [some (.inr (.inr (9, 0))), some (.inl s), some (.inl o), some (.inl n)] [.inl 0, .inl (-1), .inr (.inr (6, 4 * 0 + s.toNat))] σ Q)
    (h5 : 0 ≤ s ∧ s ≤ 3 → ¬ ((-1) ≤ o ∧ o ≤ 2) → Q (some (.inl (-2))) σ)
    (h6 : ¬ (0 ≤ s ∧ s ≤ 3) → Q (some (.inl (-2))) σ) :
    zM (d + 14) 99 [.inr (.inr (9, 0)), .inl s, .inl o, .inl n] σ Q := by
  refine zX_run (n' := 1) (ls' := [some (.inr (.inr (9, 0))), some (.inl s), some (.inl o), some (.inl n)]) (st' := [.inl s]) (σ' := σ) 1 rfl ?_
  refine zX_call rfl rfl ?_
  refine zs_110 (fun a1 => ?_) (fun a2 => ?_)
  · skip
    refine zX_run (n' := 6) (ls' := [some (.inr (.inr (9, 0))), some (.inl s), some (.inl o), some (.inl n)]) (st' := [.inl 2, .inl (-1), .inl o]) (σ' := σ) 4 rfl ?_
    refine zX_call rfl rfl ?_
    refine zs_104 (fun a3 => ?_) (fun a4 => ?_)
    · skip
      refine zX_run (n' := 12) (ls' := [some (.inr (.inr (9, 0))), some (.inl s), some (.inl o), some (.inl n)]) (st' := [.inl (-1), .inl o]) (σ' := σ) 3 rfl ?_
      refine zX_c1 rfl (fun a5 => ?_) (fun a5 => ?_)
      · skip
        refine zX_run (n' := 24) (ls' := [some (.inr (.inr (9, 0))), some (.inl s), some (.inl o), some (.inl n)]) (st' := [.inl 40, .inl n]) (σ' := σ) 2 rfl ?_
        refine zX_c5 rfl (fun a6 => ?_) (fun a6 => ?_)
        · skip
          refine zX_run (n' := 28) (ls' := [some (.inr (.inr (9, 0))), some (.inl s), some (.inl o), some (.inl n)]) (st' := [.inl n]) (σ' := σ) 1 rfl ?_
          refine zX_i3 rfl (fun a7 => ?_) (fun a7 => ?_)
          · skip
            refine zX_run (n' := 34) (ls' := [some (.inr (.inr (9, 0))), some (.inl s), some (.inl o), some (.inl n)]) (st' := [.inl s, .inr (.inr (46, 0))]) (σ' := σ) 3 rfl ?_
            refine zX_ald5 (L := 4) rfl (by decide) rfl (o1 a1 a3 a5 a6 a7) ?_
            refine zX_run (n' := 37) (ls' := [some (.inr (.inr (9, 0))), some (.inl s), some (.inl o), some (.inl n)]) (st' := [.inl n, .inl o, .inr (.inr (6, 4 * 0 + s.toNat))]) (σ' := σ) 2 rfl ?_
            exact h1 a1 a3 a5 a6 a7
          · skip
            refine zX_run (n' := 30) (ls' := [some (.inr (.inr (9, 0))), some (.inl s), some (.inl o), some (.inl n)]) (st' := [.inl (-14)]) (σ' := σ) 1 rfl ?_
            exact zX_ret rfl rfl (h2 a1 a3 a5 a6 a7)
        · skip
          refine zX_run (n' := 26) (ls' := [some (.inr (.inr (9, 0))), some (.inl s), some (.inl o), some (.inl n)]) (st' := [.inl (-2)]) (σ' := σ) 1 rfl ?_
          exact zX_ret rfl rfl (h3 a1 a3 a5 a6)
      · skip
        refine zX_run (n' := 16) (ls' := [some (.inr (.inr (9, 0))), some (.inl s), some (.inl o), some (.inl n)]) (st' := [.inl s, .inr (.inr (46, 0))]) (σ' := σ) 3 rfl ?_
        refine zX_ald5 (L := 4) rfl (by decide) rfl (o2 a1 a3 a5) ?_
        refine zX_run (n' := 19) (ls' := [some (.inr (.inr (9, 0))), some (.inl s), some (.inl o), some (.inl n)]) (st' := [.inl 0, .inl (-1), .inr (.inr (6, 4 * 0 + s.toNat))]) (σ' := σ) 2 rfl ?_
        exact h4 a1 a3 a5
    · skip
      refine zX_run (n' := 9) (ls' := [some (.inr (.inr (9, 0))), some (.inl s), some (.inl o), some (.inl n)]) (st' := [.inl (-2)]) (σ' := σ) 2 rfl ?_
      exact zX_ret rfl rfl (h5 a1 a4)
  · skip
    refine zX_run (n' := 9) (ls' := [some (.inr (.inr (9, 0))), some (.inl s), some (.inl o), some (.inl n)]) (st' := [.inl (-2)]) (σ' := σ) 2 rfl ?_
    exact zX_ret rfl rfl (h6 a2)
def zF (σ : zS) (K n0 lo hi : Nat) : zS := (fun a n j => if a = K ∧ (lo ≤ j ∧ j < hi) ∧ n = n0 then 0 else σ.1 a n j, σ.2)
theorem zF_s {σ : zS} {K n lo hi : Nat} (h : lo ≤ hi) : zU (zF σ K n lo hi) K n hi 0 = zF σ K n lo (hi + 1) := by
  refine Prod.ext (funext fun a => funext fun m => funext fun j => ?_) rfl
  show (if a = K ∧ j = hi ∧ m = n then 0 else if a = K ∧ (lo ≤ j ∧ j < hi) ∧ m = n then 0 else σ.1 a m j) = if a = K ∧ (lo ≤ j ∧ j < hi + 1) ∧ m = n then 0 else σ.1 a m j
  by_cases p : a = K ∧ j = hi ∧ m = n
  · rw [if_pos p, if_pos ⟨p.1, ⟨by omega, by omega⟩, p.2.2⟩]
  · rw [if_neg p]
    by_cases q : a = K ∧ (lo ≤ j ∧ j < hi) ∧ m = n
    · rw [if_pos q, if_pos ⟨q.1, ⟨q.2.1.1, by omega⟩, q.2.2⟩]
    · rw [if_neg q, if_neg (fun r => ?_)]
      by_cases e : j = hi
      · exact p ⟨r.1, e, r.2.2⟩
      · exact q ⟨r.1, ⟨r.2.1.1, by omega⟩, r.2.2⟩
theorem zF_0 {σ : zS} {K n lo : Nat} : zF σ K n lo lo = σ := by
  refine Prod.ext (funext fun a => funext fun m => funext fun j => ?_) rfl
  exact if_neg (fun q => by omega)
theorem zs_190 {d : Nat} {σ : zS} {Q : Option zV → zS → Prop} {g : Nat} (h : Q none (zF σ 32 g 0 40)) : zM (d + 1) 190 [.inr (.inr (32, g)), .inl 0] σ Q := by
  refine zb_190 ?_
  have L : zX (d + 1) 190 5 [some (.inr (.inr (32, g))), some (.inl 0), some (.inl ((0 : Nat) : Int)), some (.inl 40)] [] (zF σ 32 g 0 0) Q := by
    refine zLoop (P := fun k => zX (d + 1) 190 5 [some (.inr (.inr (32, g))), some (.inl 0), some (.inl (k : Int)), some (.inl 40)] [] (zF σ 32 g 0 k) Q) (k := 0) (N := 40) (by omega) ?_ (fun k _ hk ih => ?_)
    · exact zb_190l (fun q => absurd (by decide) q) (fun _ => h) (fun q => absurd (by decide) q)
    · refine zb_190l (fun _ => by omega) (fun q => absurd q (by omega)) (fun _ => ?_)
      rw [Int.toNat_natCast, zF_s (Nat.zero_le _), zWs (by omega)]
      exact ih
  rw [zF_0] at L
  exact L
theorem zs_54 {d : Nat} {σ : zS} {Q : Option zV → zS → Prop} {h : Nat} {o n : Int} (k : Q none (zF (zU (zU σ 6 h 1 o) 6 h 2 n) 32 h 0 40)) : zM (d + 2) 54 [.inr (.inr (6, h)), .inl o, .inl n] σ Q := by
  refine zb_54 ?_
  refine zX_call rfl rfl ?_
  refine zs_190 (d := d) ?_
  exact zX_ret0 rfl rfl k
theorem zl_184 {d : Nat} {σ : zS} {Q : Option zV → zS → Prop} {s : Nat} {o n : Int} (hs : s < 4) (h : Q (some (.inl 1)) (zF σ 76 0 (40 * s) (40 * s + 40))) : zX (d + 3) 184 40 [some (.inr (.inr (10, 0))), some (.inl (s : Int)), some (.inl o), some (.inl n), some (.inl 0)] [] σ Q := by
  have L : zX (d + 3) 184 40 [some (.inr (.inr (10, 0))), some (.inl (s : Int)), some (.inl o), some (.inl n), some (.inl ((0 : Nat) : Int))] [] (zF σ 76 0 (40 * s) (40 * s + 0)) Q := by
    refine zLoop (P := fun k => zX (d + 3) 184 40 [some (.inr (.inr (10, 0))), some (.inl (s : Int)), some (.inl o), some (.inl n), some (.inl (k : Int))] [] (zF σ 76 0 (40 * s) (40 * s + k)) Q) (k := 0) (N := 40) (by omega) ?_ (fun k _ hk ih => ?_)
    · exact zb_184l (fun q => absurd (by decide) q) (fun _ => h) (fun q => absurd (by decide) q)
    · have z := z40 (s := s) (i := k) hs hk
      refine zb_184l (fun _ => by rw [z]; omega) (fun q => absurd q (by omega)) (fun _ => ?_)
      rw [z, Int.toNat_natCast, zF_s (Nat.le_add_right _ _), zWs (by omega)]
      exact ih
  rw [show zF σ 76 0 (40 * s) (40 * s + 0) = σ from zF_0] at L
  exact L
theorem rBase_sh {σ : zS} {s : Nat} {o n : Int} (B : rBase σ) : rBase (zF (zU (zU (zF (zU (zU σ 6 (4 * 0 + s) 1 o) 6 (4 * 0 + s) 2 n) 32 (4 * 0 + s) 0 40) 74 0 s o) 75 0 s n) 76 0 (40 * s) (40 * s + 40)) := B
theorem yr_sheet {σ : zS} (R : yRel σ) {s : Nat} {o n : Int} (hs : s < 4) (ho : -1 ≤ o ∧ o ≤ 2) (hn : 0 ≤ n ∧ n ≤ 40) : yRel (zF (zU (zU (zF (zU (zU σ 6 (4 * 0 + s) 1 o) 6 (4 * 0 + s) 2 n) 32 (4 * 0 + s) 0 40) 74 0 s o) 75 0 s n) 76 0 (40 * s) (40 * s + 40)) := by
  obtain ⟨S, G, L, H, C, Tx, Ru, K, Tp, Sh, B⟩ := R
  refine ⟨S, G, L, H, C, Tx, Ru, K, Tp, fun t ht => ?_, rBase_sh B⟩
  obtain ⟨h1, h2, h3, h4, h5⟩ := Sh t ht
  have f1 : (if 6 = 6 ∧ 1 = 1 ∧ 4 * 0 + t = 4 * 0 + s then o else σ.1 6 (4 * 0 + t) 1) = if t = s then o else σ.1 6 (4 * 0 + t) 1 := by
    by_cases e : t = s
    · rw [if_pos ⟨rfl, rfl, by rw [e]⟩, if_pos e]
    · rw [if_neg (fun q => e (by have := q.2.2; omega)), if_neg e]
  have f2 : (if 6 = 6 ∧ 2 = 2 ∧ 4 * 0 + t = 4 * 0 + s then n else σ.1 6 (4 * 0 + t) 2) = if t = s then n else σ.1 6 (4 * 0 + t) 2 := by
    by_cases e : t = s
    · rw [if_pos ⟨rfl, rfl, by rw [e]⟩, if_pos e]
    · rw [if_neg (fun q => e (by have := q.2.2; omega)), if_neg e]
  show (if 6 = 6 ∧ 1 = 1 ∧ 4 * 0 + t = 4 * 0 + s then o else σ.1 6 (4 * 0 + t) 1) = (if 74 = 74 ∧ t = s ∧ 0 = 0 then o else σ.1 74 0 t) ∧ (-1 ≤ (if 74 = 74 ∧ t = s ∧ 0 = 0 then o else σ.1 74 0 t) ∧ (if 74 = 74 ∧ t = s ∧ 0 = 0 then o else σ.1 74 0 t) ≤ 2) ∧ (if 6 = 6 ∧ 2 = 2 ∧ 4 * 0 + t = 4 * 0 + s then n else σ.1 6 (4 * 0 + t) 2) = (if 75 = 75 ∧ t = s ∧ 0 = 0 then n else σ.1 75 0 t) ∧ (0 ≤ (if 75 = 75 ∧ t = s ∧ 0 = 0 then n else σ.1 75 0 t) ∧ (if 75 = 75 ∧ t = s ∧ 0 = 0 then n else σ.1 75 0 t) ≤ 40) ∧ ∀ j, j < 40 → (if 32 = 32 ∧ (0 ≤ j ∧ j < 40) ∧ 4 * 0 + t = 4 * 0 + s then 0 else σ.1 32 (4 * 0 + t) j) = (if 76 = 76 ∧ (40 * s ≤ 40 * t + j ∧ 40 * t + j < 40 * s + 40) ∧ 0 = 0 then 0 else σ.1 76 0 (40 * t + j))
  rw [f1, f2]
  repeat rw [ifk]
  clear f1 f2
  by_cases e : t = s
  · (repeat rw [if_pos e])
    refine ⟨rfl, ho, rfl, hn, fun j hj => ?_⟩
    rw [if_pos ⟨rfl, ⟨by omega, hj⟩, by rw [e]⟩, if_pos ⟨rfl, ⟨by omega, by omega⟩, rfl⟩]
  · (repeat rw [if_neg e])
    refine ⟨h1, h2, h3, h4, fun j hj => ?_⟩
    rw [if_neg (fun q => e (by have := q.2.2; omega)), if_neg (fun q => e (by have := q.2.1; omega))]; exact h5 j hj
-- X9_sheet
theorem zb_99a {d : Nat} {σ : zS} {Q : Option zV → zS → Prop} {s o n : Int}
    (h1 : Q (some (.inl 1)) σ) :
    zX (d + 14) 99 20 [some (.inr (.inr (9, 0))), some (.inl s), some (.inl o), some (.inl n)] [] σ Q := by
  refine zX_run (n' := 21) (ls' := [some (.inr (.inr (9, 0))), some (.inl s), some (.inl o), some (.inl n)]) (st' := [.inl 1]) (σ' := σ) 1 rfl ?_
  exact zX_ret rfl rfl h1
-- X9_sheet
theorem zb_99b {d : Nat} {σ : zS} {Q : Option zV → zS → Prop} {s o n : Int}
    (h1 : Q (some (.inl 1)) σ) :
    zX (d + 14) 99 38 [some (.inr (.inr (9, 0))), some (.inl s), some (.inl o), some (.inl n)] [] σ Q := by
  refine zX_run (n' := 39) (ls' := [some (.inr (.inr (9, 0))), some (.inl s), some (.inl o), some (.inl n)]) (st' := [.inl 1]) (σ' := σ) 1 rfl ?_
  exact zX_ret rfl rfl h1
theorem yp_sheet {d : Nat} {σ : zS} (R : yRel σ) (s o n : Int) : yPi d 99 184 [.inl s, .inl o, .inl n] σ := by
  by_cases a : 0 ≤ s ∧ s ≤ 3
  · obtain ⟨s, rfl⟩ := Int.eq_ofNat_of_zero_le a.1
    have hs : s < 4 := by omega
    have n3 : ¬ (s : Int) < 0 := by omega
    have n4 : ¬ 3 < (s : Int) := by omega
    have s0 : (0 : Int) ≤ (s : Int) ∧ (s : Int) < 4 := by omega
    have F : ∀ o n : Int, -1 ≤ o ∧ o ≤ 2 → 0 ≤ n ∧ n ≤ 40 → yRel _ := fun o n x y => yr_sheet R (s := s) (o := o) (n := n) hs x y
    refine zb_99 (d := d + 46) (fun _ _ _ _ _ => s0) (fun _ _ _ => s0) (fun _ b c e f => ?_) (fun _ b c e f => ?_) (fun _ b c e => ?_) (fun _ b c => ?_) (fun _ b => ?_) (fun q => absurd a q)
    · refine zX_call rfl rfl ?_
      refine zs_54 (d := d + 57) ?_
      refine zb_99b (d := d + 46) ?_
      refine zb_184 (d := d + 57) (fun _ _ _ _ _ => s0) (fun _ _ _ _ _ _ _ => s0) (fun q => absurd q n3) (fun _ q => absurd q n4) (fun _ _ q => absurd q (by omega)) (fun _ _ _ q => absurd q (by omega)) (fun _ _ _ _ q => absurd q (by omega)) (fun _ _ _ _ q => absurd q (by omega)) (fun _ _ _ _ _ _ _ _ => ?_) (fun _ _ _ _ _ _ _ q => absurd q (by omega)) (fun _ _ _ _ _ _ q => absurd f q) (fun _ _ _ _ _ q => absurd e q)
      exact zl_184 (d := d + 57) hs ⟨⟨_, rfl, rfl⟩, F o n b ⟨f, e⟩⟩
    · exact zb_184 (d := d + 57) (fun _ _ _ _ _ => s0) (fun _ _ _ _ _ _ _ => s0) (fun q => absurd q n3) (fun _ q => absurd q n4) (fun _ _ q => absurd q (by omega)) (fun _ _ _ q => absurd q (by omega)) (fun _ _ _ _ q => absurd q (by omega)) (fun _ _ _ _ q => absurd q (by omega)) (fun _ _ _ _ _ _ q => absurd q f) (fun _ _ _ _ _ _ q => absurd q f) (fun _ _ _ _ _ _ _ => ⟨⟨_, rfl, rfl⟩, R⟩) (fun _ _ _ _ _ q => absurd e q)
    · exact zb_184 (d := d + 57) (fun _ _ _ _ _ => s0) (fun _ _ _ _ _ _ _ => s0) (fun q => absurd q n3) (fun _ q => absurd q n4) (fun _ _ q => absurd q (by omega)) (fun _ _ _ q => absurd q (by omega)) (fun _ _ _ _ q => absurd q (by omega)) (fun _ _ _ _ q => absurd q (by omega)) (fun _ _ _ _ _ q => absurd q e) (fun _ _ _ _ _ q => absurd q e) (fun _ _ _ _ _ q => absurd q e) (fun _ _ _ _ _ _ => ⟨⟨_, rfl, rfl⟩, R⟩)
    · subst c
      refine zX_call rfl rfl ?_
      refine zs_54 (d := d + 57) ?_
      refine zb_99a (d := d + 46) ?_
      refine zb_184 (d := d + 57) (fun _ _ _ _ _ => s0) (fun _ _ _ _ _ _ _ => s0) (fun q => absurd q n3) (fun _ q => absurd q n4) (fun _ _ q => absurd q (by omega)) (fun _ _ _ q => absurd q (by omega)) (fun _ _ _ _ _ q => absurd q (by decide)) (fun _ _ _ _ _ _ => ?_) (fun _ _ _ _ q => absurd (by decide) q) (fun _ _ _ _ q => absurd (by decide) q) (fun _ _ _ _ q => absurd (by decide) q) (fun _ _ _ _ q => absurd (by decide) q)
      exact zl_184 (d := d + 57) hs ⟨⟨_, rfl, rfl⟩, F (-1) 0 (by omega) (by omega)⟩
    · have nb : ∀ {p : Prop}, ¬ o < -1 → ¬ 2 < o → p := fun x y => absurd (show -1 ≤ o ∧ o ≤ 2 by omega) b
      exact zb_184 (d := d + 57) (fun _ _ _ _ _ => s0) (fun _ _ _ _ _ _ _ => s0) (fun q => absurd q n3) (fun _ q => absurd q n4) (fun _ _ _ => ⟨⟨_, rfl, rfl⟩, R⟩) (fun _ _ _ _ => ⟨⟨_, rfl, rfl⟩, R⟩) (fun _ _ x y _ _ => nb x y) (fun _ _ x y _ _ => nb x y) (fun _ _ x y _ _ _ _ => nb x y) (fun _ _ x y _ _ _ _ => nb x y) (fun _ _ x y _ _ _ => nb x y) (fun _ _ x y _ _ => nb x y)
  · refine zb_99 (d := d + 46) (fun q _ _ _ _ => absurd q a) (fun q _ _ => absurd q a) (fun q _ _ _ _ => absurd q a) (fun q _ _ _ _ => absurd q a) (fun q _ _ _ => absurd q a) (fun q _ _ => absurd q a) (fun q _ => absurd q a) (fun _ => ?_)
    have na : ∀ {p : Prop}, ¬ s < 0 → ¬ 3 < s → p := fun x y => absurd (show 0 ≤ s ∧ s ≤ 3 by omega) a
    exact zb_184 (d := d + 57) (fun x y _ _ _ => na x y) (fun x y _ _ _ _ _ => na x y) (fun _ => ⟨⟨_, rfl, rfl⟩, R⟩) (fun _ _ => ⟨⟨_, rfl, rfl⟩, R⟩) (fun x y _ => na x y) (fun x y _ _ => na x y) (fun x y _ _ _ _ => na x y) (fun x y _ _ _ _ => na x y) (fun x y _ _ _ _ _ _ => na x y) (fun x y _ _ _ _ _ _ => na x y) (fun x y _ _ _ _ _ => na x y) (fun x y _ _ _ _ => na x y)
