-- dry, the reference (wip/whole/gen/laws63.py)
-- X10_dry
theorem zb_182b {d : Nat} {σ : zS} {Q : Option zV → zS → Prop} {s b n : Int} {x0 x1 x2 x3 x4 x5 x6 x7 : Option zV}
    (h1 : zX (d + 10) 182 39 [some (.inr (.inr (10, 0))), some (.inl s), some (.inl b), some (.inl n), x0, x1, x2, x3, x4, x5, x6, x7] [.inr (.inr (10, 0))] σ Q) :
    zX (d + 10) 182 38 [some (.inr (.inr (10, 0))), some (.inl s), some (.inl b), some (.inl n), x0, x1, x2, x3, x4, x5, x6, x7] [] σ Q := by
  refine zX_run (n' := 39) (ls' := [some (.inr (.inr (10, 0))), some (.inl s), some (.inl b), some (.inl n), x0, x1, x2, x3, x4, x5, x6, x7]) (st' := [.inr (.inr (10, 0))]) (σ' := σ) 1 rfl ?_
  exact h1
-- X10_dry
theorem zb_182b2 {d : Nat} {σ : zS} {Q : Option zV → zS → Prop} {s b n : Int} {x0 x1 x2 x3 x4 x5 x6 x7 : Option zV}
    (h1 : zX (d + 10) 182 46 [some (.inr (.inr (10, 0))), some (.inl s), some (.inl b), some (.inl n), some (.inl (-1)), some (.inr (.inl 0)), none, some (.inl 0), x4, x5, x6, x7] [] σ Q) :
    zX (d + 10) 182 40 [some (.inr (.inr (10, 0))), some (.inl s), some (.inl b), some (.inl n), x0, x1, x2, x3, x4, x5, x6, x7] [] σ Q := by
  refine zX_run (n' := 46) (ls' := [some (.inr (.inr (10, 0))), some (.inl s), some (.inl b), some (.inl n), some (.inl (-1)), some (.inr (.inl 0)), none, some (.inl 0), x4, x5, x6, x7]) (st' := []) (σ' := σ) 6 rfl ?_
  exact h1
-- X10_dry
theorem zb_182c {d : Nat} {σ : zS} {Q : Option zV → zS → Prop} {s b n best least x : Int} {x0 x1 x2 x3 : Option zV}
    (h1 : s < x → Q (some (.inl best)) σ)
    (h2 : ¬ s < x → zX (d + 10) 182 52 [some (.inr (.inr (10, 0))), some (.inl s), some (.inl b), some (.inl n), some (.inl best), some (.inr (.inl least)), none, some (.inl x), x0, x1, x2, x3] [.inl (-1), .inl s, .inl x] σ Q) :
    zX (d + 10) 182 46 [some (.inr (.inr (10, 0))), some (.inl s), some (.inl b), some (.inl n), some (.inl best), some (.inr (.inl least)), none, some (.inl x), x0, x1, x2, x3] [] σ Q := by
  refine zX_run (n' := 48) (ls' := [some (.inr (.inr (10, 0))), some (.inl s), some (.inl b), some (.inl n), some (.inl best), some (.inr (.inl least)), none, some (.inl x), x0, x1, x2, x3]) (st' := [.inl s, .inl x]) (σ' := σ) 2 rfl ?_
  refine zX_c4 rfl (fun a1 => ?_) (fun a1 => ?_)
  · skip
    refine zX_run (n' := 126) (ls' := [some (.inr (.inr (10, 0))), some (.inl s), some (.inl b), some (.inl n), some (.inl best), some (.inr (.inl least)), none, some (.inl x), x0, x1, x2, x3]) (st' := [.inl best]) (σ' := σ) 1 rfl ?_
    exact zX_ret rfl rfl (h1 a1)
  · skip
    refine zX_run (n' := 52) (ls' := [some (.inr (.inr (10, 0))), some (.inl s), some (.inl b), some (.inl n), some (.inl best), some (.inr (.inl least)), none, some (.inl x), x0, x1, x2, x3]) (st' := [.inl (-1), .inl s, .inl x]) (σ' := σ) 3 rfl ?_
    exact h2 a1
-- X10_dry
theorem zb_182c3 {d : Nat} {σ : zS} {Q : Option zV → zS → Prop} {s b n best least x : Int} {z : Int} {x0 x1 x2 x3 : Option zV}
    (h1 : z = 0 → zX (d + 10) 182 60 [some (.inr (.inr (10, 0))), some (.inl s), some (.inl b), some (.inl n), some (.inl best), some (.inr (.inl least)), none, some (.inl x), some (.inr (.inl 0)), none, some (.inl 0), x3] [] σ Q)
    (h2 : ¬ z = 0 → zX (d + 10) 182 123 [some (.inr (.inr (10, 0))), some (.inl s), some (.inl b), some (.inl n), some (.inl best), some (.inr (.inl least)), none, some (.inl x), x0, x1, x2, x3] [] σ Q) :
    zX (d + 10) 182 54 [some (.inr (.inr (10, 0))), some (.inl s), some (.inl b), some (.inl n), some (.inl best), some (.inr (.inl least)), none, some (.inl x), x0, x1, x2, x3] [.inl z] σ Q := by
  refine zX_i0 rfl (fun a1 => ?_) (fun a1 => ?_)
  · skip
    refine zX_run (n' := 60) (ls' := [some (.inr (.inr (10, 0))), some (.inl s), some (.inl b), some (.inl n), some (.inl best), some (.inr (.inl least)), none, some (.inl x), some (.inr (.inl 0)), none, some (.inl 0), x3]) (st' := []) (σ' := σ) 4 rfl ?_
    exact h1 a1
  · skip
    refine zX_run (n' := 123) (ls' := [some (.inr (.inr (10, 0))), some (.inl s), some (.inl b), some (.inl n), some (.inl best), some (.inr (.inl least)), none, some (.inl x), x0, x1, x2, x3]) (st' := []) (σ' := σ) 1 rfl ?_
    exact h2 a1
theorem zb_182c2 {d : Nat} {σ : zS} {Q : Option zV → zS → Prop} {s b n best least x m : Int} {x0 x1 x2 x3 : Option zV}
    (h1 : zX (d + 10) 182 54 [some (.inr (.inr (10, 0))), some (.inl s), some (.inl b), some (.inl n), some (.inl best), some (.inr (.inl least)), none, some (.inl x), x0, x1, x2, x3] [.inl (zBin 3 x (zBin 5 s m))] σ Q) :
    zX (d + 10) 182 52 [some (.inr (.inr (10, 0))), some (.inl s), some (.inl b), some (.inl n), some (.inl best), some (.inr (.inl least)), none, some (.inl x), x0, x1, x2, x3] [.inl m, .inl s, .inl x] σ Q := by
  refine zX_run (n' := 53) (ls' := [some (.inr (.inr (10, 0))), some (.inl s), some (.inl b), some (.inl n), some (.inl best), some (.inr (.inl least)), none, some (.inl x), x0, x1, x2, x3]) (st' := [.inl (zBin 5 s m), .inl x]) (σ' := σ) 1 rfl ?_
  generalize zBin 5 s m = a at *
  refine zX_run (n' := 54) (ls' := [some (.inr (.inr (10, 0))), some (.inl s), some (.inl b), some (.inl n), some (.inl best), some (.inr (.inl least)), none, some (.inl x), x0, x1, x2, x3]) (st' := [.inl (zBin 3 x a)]) (σ' := σ) 1 rfl ?_
  exact h1
-- X10_dry
theorem zb_182d {d : Nat} {σ : zS} {Q : Option zV → zS → Prop} {s b n best least x sum : Int} {h : Int} {x0 : Option zV}
    (o1 : ¬ σ.1 10 0 4 ≤ h → zBin 3 (zBin 7 x h) 1 = 1 → (0 : Int) ≤ h ∧ h < (17 : Int))
    (h1 : σ.1 10 0 4 ≤ h → zX (d + 10) 182 80 [some (.inr (.inr (10, 0))), some (.inl s), some (.inl b), some (.inl n), some (.inl best), some (.inr (.inl least)), none, some (.inl x), some (.inr (.inl sum)), none, some (.inl h), x0] [] σ Q)
    (h2 : ¬ σ.1 10 0 4 ≤ h → ¬ zBin 3 (zBin 7 x h) 1 = 1 → zX (d + 10) 182 60 [some (.inr (.inr (10, 0))), some (.inl s), some (.inl b), some (.inl n), some (.inl best), some (.inr (.inl least)), none, some (.inl x), some (.inr (.inl sum)), none, some (.inl (zW (h + 1))), x0] [] σ Q)
    (h3 : ¬ σ.1 10 0 4 ≤ h → zBin 3 (zBin 7 x h) 1 = 1 → zX (d + 10) 182 60 [some (.inr (.inr (10, 0))), some (.inl s), some (.inl b), some (.inl n), some (.inl best), some (.inr (.inl least)), none, some (.inl x), some (.inr (.inl (zWl (sum + (σ.2 101 0 (h.toNat)))))), none, some (.inl (zW (h + 1))), x0] [] σ Q) :
    zX (d + 10) 182 60 [some (.inr (.inr (10, 0))), some (.inl s), some (.inl b), some (.inl n), some (.inl best), some (.inr (.inl least)), none, some (.inl x), some (.inr (.inl sum)), none, some (.inl h), x0] [] σ Q := by
  refine zX_run (n' := 63) (ls' := [some (.inr (.inr (10, 0))), some (.inl s), some (.inl b), some (.inl n), some (.inl best), some (.inr (.inl least)), none, some (.inl x), some (.inr (.inl sum)), none, some (.inl h), x0]) (st' := [.inl (σ.1 10 0 4), .inl h]) (σ' := σ) 3 rfl ?_
  refine zX_c3 rfl (fun a1 => ?_) (fun a1 => ?_)
  · skip
    exact h1 a1
  · skip
    refine zX_run (n' := 70) (ls' := [some (.inr (.inr (10, 0))), some (.inl s), some (.inl b), some (.inl n), some (.inl best), some (.inr (.inl least)), none, some (.inl x), some (.inr (.inl sum)), none, some (.inl h), x0]) (st' := [.inl 1, .inl (zBin 3 (zBin 7 x h) 1)]) (σ' := σ) 6 rfl ?_
    refine zX_c1 rfl (fun a2 => ?_) (fun a2 => ?_)
    · skip
      refine zX_run (n' := 60) (ls' := [some (.inr (.inr (10, 0))), some (.inl s), some (.inl b), some (.inl n), some (.inl best), some (.inr (.inl least)), none, some (.inl x), some (.inr (.inl sum)), none, some (.inl (zW (h + 1))), x0]) (st' := []) (σ' := σ) 2 rfl ?_
      exact h2 a1 a2
    · skip
      refine zX_run (n' := 75) (ls' := [some (.inr (.inr (10, 0))), some (.inl s), some (.inl b), some (.inl n), some (.inl best), some (.inr (.inl least)), none, some (.inl x), some (.inr (.inl sum)), none, some (.inl h), x0]) (st' := [.inl h, .inr (.inr (101, 0)), .inr (.inl sum)]) (σ' := σ) 4 rfl ?_
      refine zX_ald2 (L := 17) rfl (by decide) rfl (o1 a1 a2) ?_
      refine zX_run (n' := 60) (ls' := [some (.inr (.inr (10, 0))), some (.inl s), some (.inl b), some (.inl n), some (.inl best), some (.inr (.inl least)), none, some (.inl x), some (.inr (.inl (zWl (sum + (σ.2 101 0 (h.toNat)))))), none, some (.inl (zW (h + 1))), x0]) (st' := []) (σ' := σ) 4 rfl ?_
      exact h3 a1 a2
-- X10_dry
theorem zb_182e {d : Nat} {σ : zS} {Q : Option zV → zS → Prop} {s b n best least x sum : Int} {x0 x1 : Option zV}
    (h1 : best = (-1) → zX (d + 10) 182 92 [some (.inr (.inr (10, 0))), some (.inl s), some (.inl b), some (.inl n), some (.inl best), some (.inr (.inl least)), none, some (.inl x), some (.inr (.inl sum)), none, x0, x1] [.inr (.inr (10, 0))] (zU σ 10 0 66 x) Q)
    (h2 : ¬ best = (-1) → least < sum → zX (d + 10) 182 123 [some (.inr (.inr (10, 0))), some (.inl s), some (.inl b), some (.inl n), some (.inl best), some (.inr (.inl least)), none, some (.inl x), some (.inr (.inl sum)), none, x0, x1] [] σ Q)
    (h3 : ¬ best = (-1) → sum = least → zX (d + 10) 182 123 [some (.inr (.inr (10, 0))), some (.inl s), some (.inl b), some (.inl n), some (.inl best), some (.inr (.inl least)), none, some (.inl x), some (.inr (.inl sum)), none, x0, x1] [] σ Q)
    (h4 : ¬ best = (-1) → sum < least → zX (d + 10) 182 92 [some (.inr (.inr (10, 0))), some (.inl s), some (.inl b), some (.inl n), some (.inl best), some (.inr (.inl least)), none, some (.inl x), some (.inr (.inl sum)), none, x0, x1] [.inr (.inr (10, 0))] (zU σ 10 0 66 x) Q) :
    zX (d + 10) 182 80 [some (.inr (.inr (10, 0))), some (.inl s), some (.inl b), some (.inl n), some (.inl best), some (.inr (.inl least)), none, some (.inl x), some (.inr (.inl sum)), none, x0, x1] [] σ Q := by
  refine zX_run (n' := 82) (ls' := [some (.inr (.inr (10, 0))), some (.inl s), some (.inl b), some (.inl n), some (.inl best), some (.inr (.inl least)), none, some (.inl x), some (.inr (.inl sum)), none, x0, x1]) (st' := [.inl (-1), .inl best]) (σ' := σ) 2 rfl ?_
  refine zX_c0 rfl (fun a1 => ?_) (fun a1 => ?_)
  · skip
    refine zX_run (n' := 92) (ls' := [some (.inr (.inr (10, 0))), some (.inl s), some (.inl b), some (.inl n), some (.inl best), some (.inr (.inl least)), none, some (.inl x), some (.inr (.inl sum)), none, x0, x1]) (st' := [.inr (.inr (10, 0))]) (σ' := (zU σ 10 0 66 x)) 4 rfl ?_
    exact h1 a1
  · skip
    refine zX_run (n' := 85) (ls' := [some (.inr (.inr (10, 0))), some (.inl s), some (.inl b), some (.inl n), some (.inl best), some (.inr (.inl least)), none, some (.inl x), some (.inr (.inl sum)), none, x0, x1]) (st' := [.inr (.inl least), .inr (.inl sum)]) (σ' := σ) 2 rfl ?_
    refine zX_lc rfl (fun a2 => ?_) (fun a2 => ?_) (fun a2 => ?_)
    · skip
      refine zX_run (n' := 123) (ls' := [some (.inr (.inr (10, 0))), some (.inl s), some (.inl b), some (.inl n), some (.inl best), some (.inr (.inl least)), none, some (.inl x), some (.inr (.inl sum)), none, x0, x1]) (st' := []) (σ' := σ) 2 rfl ?_
      exact h2 a1 a2
    · skip
      refine zX_run (n' := 123) (ls' := [some (.inr (.inr (10, 0))), some (.inl s), some (.inl b), some (.inl n), some (.inl best), some (.inr (.inl least)), none, some (.inl x), some (.inr (.inl sum)), none, x0, x1]) (st' := []) (σ' := σ) 2 rfl ?_
      exact h3 a1 a2
    · skip
      refine zX_run (n' := 92) (ls' := [some (.inr (.inr (10, 0))), some (.inl s), some (.inl b), some (.inl n), some (.inl best), some (.inr (.inl least)), none, some (.inl x), some (.inr (.inl sum)), none, x0, x1]) (st' := [.inr (.inr (10, 0))]) (σ' := (zU σ 10 0 66 x)) 5 rfl ?_
      exact h4 a1 a2
-- X10_dry
theorem zb_182f {d : Nat} {σ : zS} {Q : Option zV → zS → Prop} {s b n best least x sum : Int} {x0 x1 : Option zV}
    (h1 : zX (d + 10) 182 100 [some (.inr (.inr (10, 0))), some (.inl s), some (.inl b), some (.inl n), some (.inl best), some (.inr (.inl least)), none, some (.inl x), some (.inr (.inl sum)), none, some (.inl 1), some (.inl 0)] [] (zU σ 10 0 66 0) Q) :
    zX (d + 10) 182 93 [some (.inr (.inr (10, 0))), some (.inl s), some (.inl b), some (.inl n), some (.inl best), some (.inr (.inl least)), none, some (.inl x), some (.inr (.inl sum)), none, x0, x1] [] σ Q := by
  refine zX_run (n' := 100) (ls' := [some (.inr (.inr (10, 0))), some (.inl s), some (.inl b), some (.inl n), some (.inl best), some (.inr (.inl least)), none, some (.inl x), some (.inr (.inl sum)), none, some (.inl 1), some (.inl 0)]) (st' := []) (σ' := (zU σ 10 0 66 0)) 7 rfl ?_
  exact h1
-- X10_dry
theorem zb_182g {d : Nat} {σ : zS} {Q : Option zV → zS → Prop} {s b n best least x sum : Int} {may m : Int}
    (o1 : ¬ 96 ≤ m → ¬ may = 0 → 0 ≤ m ∧ m < 96)
    (h1 : 96 ≤ m → zX (d + 10) 182 116 [some (.inr (.inr (10, 0))), some (.inl s), some (.inl b), some (.inl n), some (.inl best), some (.inr (.inl least)), none, some (.inl x), some (.inr (.inl sum)), none, some (.inl may), some (.inl m)] [] σ Q)
    (h2 : ¬ 96 ≤ m → may = 0 → zX (d + 10) 182 116 [some (.inr (.inr (10, 0))), some (.inl s), some (.inl b), some (.inl n), some (.inl best), some (.inr (.inl least)), none, some (.inl x), some (.inr (.inl sum)), none, some (.inl may), some (.inl m)] [] σ Q)
    (h3 : ¬ 96 ≤ m → ¬ may = 0 → b < mSharp σ m.toNat → zX (d + 10) 182 100 [some (.inr (.inr (10, 0))), some (.inl s), some (.inl b), some (.inl n), some (.inl best), some (.inr (.inl least)), none, some (.inl x), some (.inr (.inl sum)), none, some (.inl 0), some (.inl (zW (m + 1)))] [] σ Q)
    (h4 : ¬ 96 ≤ m → ¬ may = 0 → ¬ b < mSharp σ m.toNat → zX (d + 10) 182 100 [some (.inr (.inr (10, 0))), some (.inl s), some (.inl b), some (.inl n), some (.inl best), some (.inr (.inl least)), none, some (.inl x), some (.inr (.inl sum)), none, some (.inl 1), some (.inl (zW (m + 1)))] [] σ Q) :
    zX (d + 10) 182 100 [some (.inr (.inr (10, 0))), some (.inl s), some (.inl b), some (.inl n), some (.inl best), some (.inr (.inl least)), none, some (.inl x), some (.inr (.inl sum)), none, some (.inl may), some (.inl m)] [] σ Q := by
  refine zX_run (n' := 102) (ls' := [some (.inr (.inr (10, 0))), some (.inl s), some (.inl b), some (.inl n), some (.inl best), some (.inr (.inl least)), none, some (.inl x), some (.inr (.inl sum)), none, some (.inl may), some (.inl m)]) (st' := [.inl 96, .inl m]) (σ' := σ) 2 rfl ?_
  refine zX_c3 rfl (fun a1 => ?_) (fun a1 => ?_)
  · skip
    exact h1 a1
  · skip
    refine zX_run (n' := 104) (ls' := [some (.inr (.inr (10, 0))), some (.inl s), some (.inl b), some (.inl n), some (.inl best), some (.inr (.inl least)), none, some (.inl x), some (.inr (.inl sum)), none, some (.inl may), some (.inl m)]) (st' := [.inl may]) (σ' := σ) 1 rfl ?_
    refine zX_i0 rfl (fun a2 => ?_) (fun a2 => ?_)
    · skip
      exact h2 a1 a2
    · skip
      refine zX_run (n' := 107) (ls' := [some (.inr (.inr (10, 0))), some (.inl s), some (.inl b), some (.inl n), some (.inl best), some (.inr (.inl least)), none, some (.inl x), some (.inr (.inl sum)), none, some (.inl may), some (.inl m)]) (st' := [.inl m, .inr (.inr (10, 0))]) (σ' := σ) 2 rfl ?_
      refine zX_call rfl rfl ?_
      refine zs_167 (o1 a1 a2) ?_
      · skip
        refine zX_run (n' := 109) (ls' := [some (.inr (.inr (10, 0))), some (.inl s), some (.inl b), some (.inl n), some (.inl best), some (.inr (.inl least)), none, some (.inl x), some (.inr (.inl sum)), none, some (.inl may), some (.inl m)]) (st' := [.inl b, .inl (mSharp σ m.toNat)]) (σ' := σ) 1 rfl ?_
        refine zX_c4 rfl (fun a3 => ?_) (fun a3 => ?_)
        · skip
          refine zX_run (n' := 100) (ls' := [some (.inr (.inr (10, 0))), some (.inl s), some (.inl b), some (.inl n), some (.inl best), some (.inr (.inl least)), none, some (.inl x), some (.inr (.inl sum)), none, some (.inl 0), some (.inl (zW (m + 1)))]) (st' := []) (σ' := σ) 4 rfl ?_
          exact h3 a1 a2 a3
        · skip
          refine zX_run (n' := 100) (ls' := [some (.inr (.inr (10, 0))), some (.inl s), some (.inl b), some (.inl n), some (.inl best), some (.inr (.inl least)), none, some (.inl x), some (.inr (.inl sum)), none, some (.inl 1), some (.inl (zW (m + 1)))]) (st' := []) (σ' := σ) 5 rfl ?_
          exact h4 a1 a2 a3
-- X10_dry
theorem zb_182h {d : Nat} {σ : zS} {Q : Option zV → zS → Prop} {s b n best least x sum : Int} {may m : Int}
    (h1 : ¬ may = 0 → zX (d + 10) 182 123 [some (.inr (.inr (10, 0))), some (.inl s), some (.inl b), some (.inl n), some (.inl x), some (.inr (.inl sum)), none, some (.inl x), some (.inr (.inl sum)), none, some (.inl may), some (.inl m)] [] σ Q)
    (h2 : may = 0 → zX (d + 10) 182 123 [some (.inr (.inr (10, 0))), some (.inl s), some (.inl b), some (.inl n), some (.inl best), some (.inr (.inl least)), none, some (.inl x), some (.inr (.inl sum)), none, some (.inl may), some (.inl m)] [] σ Q) :
    zX (d + 10) 182 116 [some (.inr (.inr (10, 0))), some (.inl s), some (.inl b), some (.inl n), some (.inl best), some (.inr (.inl least)), none, some (.inl x), some (.inr (.inl sum)), none, some (.inl may), some (.inl m)] [] σ Q := by
  refine zX_run (n' := 117) (ls' := [some (.inr (.inr (10, 0))), some (.inl s), some (.inl b), some (.inl n), some (.inl best), some (.inr (.inl least)), none, some (.inl x), some (.inr (.inl sum)), none, some (.inl may), some (.inl m)]) (st' := [.inl may]) (σ' := σ) 1 rfl ?_
  refine zX_i1 rfl (fun a1 => ?_) (fun a1 => ?_)
  · skip
    refine zX_run (n' := 123) (ls' := [some (.inr (.inr (10, 0))), some (.inl s), some (.inl b), some (.inl n), some (.inl x), some (.inr (.inl sum)), none, some (.inl x), some (.inr (.inl sum)), none, some (.inl may), some (.inl m)]) (st' := []) (σ' := σ) 4 rfl ?_
    exact h1 a1
  · skip
    refine zX_run (n' := 123) (ls' := [some (.inr (.inr (10, 0))), some (.inl s), some (.inl b), some (.inl n), some (.inl best), some (.inr (.inl least)), none, some (.inl x), some (.inr (.inl sum)), none, some (.inl may), some (.inl m)]) (st' := []) (σ' := σ) 1 rfl ?_
    exact h2 a1
-- X10_dry
theorem zb_182i {d : Nat} {σ : zS} {Q : Option zV → zS → Prop} {s b n best least x : Int} {x0 x1 x2 x3 : Option zV}
    (h1 : zX (d + 10) 182 46 [some (.inr (.inr (10, 0))), some (.inl s), some (.inl b), some (.inl n), some (.inl best), some (.inr (.inl least)), none, some (.inl (zW (x + 1))), x0, x1, x2, x3] [] σ Q) :
    zX (d + 10) 182 123 [some (.inr (.inr (10, 0))), some (.inl s), some (.inl b), some (.inl n), some (.inl best), some (.inr (.inl least)), none, some (.inl x), x0, x1, x2, x3] [] σ Q := by
  refine zX_run (n' := 46) (ls' := [some (.inr (.inr (10, 0))), some (.inl s), some (.inl b), some (.inl n), some (.inl best), some (.inr (.inl least)), none, some (.inl (zW (x + 1))), x0, x1, x2, x3]) (st' := []) (σ' := σ) 2 rfl ?_
  exact h1
