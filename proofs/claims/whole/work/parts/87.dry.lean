-- dry: blocks (wip/whole/gen/laws60.py)
-- X9_setGets
theorem zb_118 {d : Nat} {σ : zS} {Q : Option zV → zS → Prop} {s : Int}
    (h1 : zX (d + 12) 118 4 [some (.inr (.inr (9, 0))), some (.inl s), some (.inr (.inl 0)), none, some (.inl 0)] [] σ Q) :
    zM (d + 12) 118 [.inr (.inr (9, 0)), .inl s] σ Q := by
  refine zX_run (n' := 4) (ls' := [some (.inr (.inr (9, 0))), some (.inl s), some (.inr (.inl 0)), none, some (.inl 0)]) (st' := []) (σ' := σ) 4 rfl ?_
  exact h1
-- X9_setGets
theorem zb_118l {d : Nat} {σ : zS} {Q : Option zV → zS → Prop} {s v h : Int}
    (o1 : ¬ σ.1 8 0 8 ≤ h → zBin 3 (zBin 7 s h) 1 = 1 → 0 ≤ h ∧ h < 16)
    (o2 : ¬ σ.1 8 0 8 ≤ h → zBin 3 (zBin 7 s h) 1 = 1 → 0 ≤ (0 : Int) ∧ (0 : Int) ≤ (96 : Int) ∧ (96 : Int) ≤ 96)
    (h1 : σ.1 8 0 8 ≤ h → Q (some (.inr (.inl v))) σ)
    (h2 : ¬ σ.1 8 0 8 ≤ h → ¬ zBin 3 (zBin 7 s h) 1 = 1 → zX (d + 12) 118 4 [some (.inr (.inr (9, 0))), some (.inl s), some (.inr (.inl v)), none, some (.inl (zW (h + 1)))] [] σ Q)
    (h3 : ¬ σ.1 8 0 8 ≤ h → zBin 3 (zBin 7 s h) 1 = 1 → zX (d + 12) 118 4 [some (.inr (.inr (9, 0))), some (.inl s), some (.inr (.inl (zWl (v + (uSw (σ.1 18 (16 * 0 + h.toNat)) (0 : Int).toNat ((96 : Int).toNat - (0 : Int).toNat)))))), none, some (.inl (zW (h + 1)))] [] σ Q) :
    zX (d + 12) 118 4 [some (.inr (.inr (9, 0))), some (.inl s), some (.inr (.inl v)), none, some (.inl h)] [] σ Q := by
  refine zX_run (n' := 8) (ls' := [some (.inr (.inr (9, 0))), some (.inl s), some (.inr (.inl v)), none, some (.inl h)]) (st' := [.inl (σ.1 8 0 8), .inl h]) (σ' := σ) 4 rfl ?_
  refine zX_c3 rfl (fun a1 => ?_) (fun a1 => ?_)
  · skip
    refine zX_run (n' := 28) (ls' := [some (.inr (.inr (9, 0))), some (.inl s), some (.inr (.inl v)), none, some (.inl h)]) (st' := [.inr (.inl v)]) (σ' := σ) 1 rfl ?_
    exact zX_retL rfl rfl (h1 a1)
  · skip
    refine zX_run (n' := 15) (ls' := [some (.inr (.inr (9, 0))), some (.inl s), some (.inr (.inl v)), none, some (.inl h)]) (st' := [.inl 1, .inl (zBin 3 (zBin 7 s h) 1)]) (σ' := σ) 6 rfl ?_
    refine zX_c1 rfl (fun a2 => ?_) (fun a2 => ?_)
    · skip
      refine zX_run (n' := 4) (ls' := [some (.inr (.inr (9, 0))), some (.inl s), some (.inr (.inl v)), none, some (.inl (zW (h + 1)))]) (st' := []) (σ' := σ) 2 rfl ?_
      exact h2 a1 a2
    · skip
      refine zX_run (n' := 22) (ls' := [some (.inr (.inr (9, 0))), some (.inl s), some (.inr (.inl v)), none, some (.inl h)]) (st' := [.inl 96, .inl 0, .inl h, .inr (.inr (0, 0)), .inr (.inl v)]) (σ' := σ) 6 rfl ?_
      refine zX_call rfl rfl ?_
      refine zs_21 (o1 a1 a2) (o2 a1 a2) ?_
      · skip
        refine zX_run (n' := 4) (ls' := [some (.inr (.inr (9, 0))), some (.inl s), some (.inr (.inl (zWl (v + (uSw (σ.1 18 (16 * 0 + h.toNat)) (0 : Int).toNat ((96 : Int).toNat - (0 : Int).toNat)))))), none, some (.inl (zW (h + 1)))]) (st' := []) (σ' := σ) 4 rfl ?_
        exact h3 a1 a2
-- X0_staysBelow
theorem zb_5 {d : Nat} {σ : zS} {Q : Option zV → zS → Prop} {f : Nat} {s : Int} {b : Int}
    (h1 : zX (d + 16) 5 4 [some (.inr (.inr (0, f))), some (.inl s), some (.inl b), none] [.inr (.inr (0, f))] (zU σ 0 f 9 s) Q) :
    zM (d + 16) 5 [.inr (.inr (0, f)), .inl s, .inl b] σ Q := by
  refine zX_run (n' := 4) (ls' := [some (.inr (.inr (0, f))), some (.inl s), some (.inl b), none]) (st' := [.inr (.inr (0, f))]) (σ' := (zU σ 0 f 9 s)) 4 rfl ?_
  exact h1
-- X0_staysBelow
theorem zb_5b {d : Nat} {σ : zS} {Q : Option zV → zS → Prop} {f : Nat} {s b : Int}
    (h1 : zX (d + 16) 5 7 [some (.inr (.inr (0, f))), some (.inl s), some (.inl b), some (.inl 0)] [] σ Q) :
    zX (d + 16) 5 5 [some (.inr (.inr (0, f))), some (.inl s), some (.inl b), none] [] σ Q := by
  refine zX_run (n' := 7) (ls' := [some (.inr (.inr (0, f))), some (.inl s), some (.inl b), some (.inl 0)]) (st' := []) (σ' := σ) 2 rfl ?_
  exact h1
-- X0_staysBelow
theorem zb_5l {d : Nat} {σ : zS} {Q : Option zV → zS → Prop} {f : Nat} {s b m : Int}
    (h1 : 96 ≤ m → Q (some (.inl 1)) σ)
    (h2 : ¬ 96 ≤ m → zX (d + 16) 5 14 [some (.inr (.inr (0, f))), some (.inl s), some (.inl b), some (.inl m)] [.inl (zW (m + 1)), .inr (.inr (0, f))] σ Q) :
    zX (d + 16) 5 7 [some (.inr (.inr (0, f))), some (.inl s), some (.inl b), some (.inl m)] [] σ Q := by
  refine zX_run (n' := 9) (ls' := [some (.inr (.inr (0, f))), some (.inl s), some (.inl b), some (.inl m)]) (st' := [.inl 96, .inl m]) (σ' := σ) 2 rfl ?_
  refine zX_c3 rfl (fun a1 => ?_) (fun a1 => ?_)
  · skip
    refine zX_run (n' := 25) (ls' := [some (.inr (.inr (0, f))), some (.inl s), some (.inl b), some (.inl m)]) (st' := [.inl 1]) (σ' := σ) 1 rfl ?_
    exact zX_ret rfl rfl (h1 a1)
  · skip
    refine zX_run (n' := 14) (ls' := [some (.inr (.inr (0, f))), some (.inl s), some (.inl b), some (.inl m)]) (st' := [.inl (zW (m + 1)), .inr (.inr (0, f))]) (σ' := σ) 4 rfl ?_
    exact h2 a1
-- X0_staysBelow
theorem zb_5c {d : Nat} {σ : zS} {Q : Option zV → zS → Prop} {f : Nat} {s b m : Int}
    (o1 : 0 ≤ m ∧ m < 96)
    (h1 : cSharp σ f m.toNat ≤ b → zX (d + 16) 5 7 [some (.inr (.inr (0, f))), some (.inl s), some (.inl b), some (.inl (zW (m + 1)))] [] σ Q)
    (h2 : ¬ cSharp σ f m.toNat ≤ b → Q (some (.inl 0)) σ) :
    zX (d + 16) 5 15 [some (.inr (.inr (0, f))), some (.inl s), some (.inl b), some (.inl m)] [] σ Q := by
  refine zX_run (n' := 17) (ls' := [some (.inr (.inr (0, f))), some (.inl s), some (.inl b), some (.inl m)]) (st' := [.inl m, .inr (.inr (0, f))]) (σ' := σ) 2 rfl ?_
  refine zX_call rfl rfl ?_
  refine zs_20 o1 ?_
  · skip
    refine zX_run (n' := 19) (ls' := [some (.inr (.inr (0, f))), some (.inl s), some (.inl b), some (.inl m)]) (st' := [.inl b, .inl (cSharp σ f m.toNat)]) (σ' := σ) 1 rfl ?_
    refine zX_c5 rfl (fun a1 => ?_) (fun a1 => ?_)
    · skip
      refine zX_run (n' := 7) (ls' := [some (.inr (.inr (0, f))), some (.inl s), some (.inl b), some (.inl (zW (m + 1)))]) (st' := []) (σ' := σ) 2 rfl ?_
      exact h1 a1
    · skip
      refine zX_run (n' := 21) (ls' := [some (.inr (.inr (0, f))), some (.inl s), some (.inl b), some (.inl m)]) (st' := [.inl 0]) (σ' := σ) 1 rfl ?_
      exact zX_ret rfl rfl (h2 a1)
-- X9_isSetToLeaveDry
theorem zb_114 {d : Nat} {σ : zS} {Q : Option zV → zS → Prop} {s : Int}
    (h1 : (0 : Int) ≤ s ∧ s ≤ (zW ((zBin 6 1 (σ.1 8 0 8)) - 1)) → zX (d + 3) 114 12 [some (.inr (.inr (9, 0))), some (.inl s)] [.inl s] σ Q)
    (h2 : ¬ ((0 : Int) ≤ s ∧ s ≤ (zW ((zBin 6 1 (σ.1 8 0 8)) - 1))) → Q (some (.inl 0)) σ) :
    zM (d + 3) 114 [.inr (.inr (9, 0)), .inl s] σ Q := by
  refine zX_run (n' := 9) (ls' := [some (.inr (.inr (9, 0))), some (.inl s)]) (st' := [.inl (zW ((zBin 6 1 (σ.1 8 0 8)) - 1)), .inl 0, .inl s]) (σ' := σ) 9 rfl ?_
  refine zX_call rfl rfl ?_
  refine zs_104 (fun a1 => ?_) (fun a2 => ?_)
  · skip
    refine zX_run (n' := 12) (ls' := [some (.inr (.inr (9, 0))), some (.inl s)]) (st' := [.inl s]) (σ' := σ) 2 rfl ?_
    exact h1 a1
  · skip
    refine zX_run (n' := 18) (ls' := [some (.inr (.inr (9, 0))), some (.inl s)]) (st' := [.inl 0]) (σ' := σ) 2 rfl ?_
    exact zX_ret rfl rfl (h2 a2)
-- X9_isSetToLeaveDry
theorem zb_114b {d : Nat} {σ : zS} {Q : Option zV → zS → Prop} {s v : Int}
    (h1 : 6 < v → Q (some (.inl 0)) σ)
    (h2 : ¬ 6 < v → Q (some (.inl 1)) σ) :
    zX (d + 3) 114 13 [some (.inr (.inr (9, 0))), some (.inl s)] [.inl v] σ Q := by
  refine zX_run (n' := 14) (ls' := [some (.inr (.inr (9, 0))), some (.inl s)]) (st' := [.inl 6, .inl v]) (σ' := σ) 1 rfl ?_
  refine zX_c4 rfl (fun a1 => ?_) (fun a1 => ?_)
  · skip
    refine zX_run (n' := 18) (ls' := [some (.inr (.inr (9, 0))), some (.inl s)]) (st' := [.inl 0]) (σ' := σ) 1 rfl ?_
    exact zX_ret rfl rfl (h1 a1)
  · skip
    refine zX_run (n' := 18) (ls' := [some (.inr (.inr (9, 0))), some (.inl s)]) (st' := [.inl 1]) (σ' := σ) 2 rfl ?_
    exact zX_ret rfl rfl (h2 a1)
-- X9_dry
theorem zb_97 {d : Nat} {σ : zS} {Q : Option zV → zS → Prop} {s : Int} {b : Int}
    (h1 : zX (d + 20) 97 2 [some (.inr (.inr (9, 0))), some (.inl s), some (.inl b), none, none, none, none, none, none, none] [.inl s, .inr (.inr (9, 0))] σ Q) :
    zM (d + 20) 97 [.inr (.inr (9, 0)), .inl s, .inl b] σ Q := by
  refine zX_run (n' := 2) (ls' := [some (.inr (.inr (9, 0))), some (.inl s), some (.inl b), none, none, none, none, none, none, none]) (st' := [.inl s, .inr (.inr (9, 0))]) (σ' := σ) 2 rfl ?_
  exact h1
-- X9_dry
theorem zb_97b {d : Nat} {σ : zS} {Q : Option zV → zS → Prop} {s b v : Int}
    (o1 : ¬ v = 0 → (0 : Int) ≤ b ∧ b ≤ (99999 : Int) → (0 : Int) ≤ (96 : Int) ∧ (96 : Int) ≤ (96 : Int))
    (o2 : ¬ v = 0 → (0 : Int) ≤ b ∧ b ≤ (99999 : Int) → yRel σ)
    (h1 : v = 0 → Q (some (.inl (-2))) σ)
    (h2 : ¬ v = 0 → (0 : Int) ≤ b ∧ b ≤ (99999 : Int) → ∀ G1 : Nat → Nat → Nat → Int, cWk (zG σ G1) 0 (mD σ) (96 : Int) → yRel (zG σ G1) → cOth σ G1 0 → zX (d + 20) 97 19 [some (.inr (.inr (9, 0))), some (.inl s), some (.inl b), none, none, none, none, none, none, none] [.inl (-1), .inl (-1), .inr (.inr (0, 1))] (zG σ G1) Q)
    (h3 : ¬ v = 0 → ¬ ((0 : Int) ≤ b ∧ b ≤ (99999 : Int)) → Q (some (.inl (-2))) σ) :
    zX (d + 20) 97 3 [some (.inr (.inr (9, 0))), some (.inl s), some (.inl b), none, none, none, none, none, none, none] [.inl v] σ Q := by
  refine zX_i0 rfl (fun a1 => ?_) (fun a1 => ?_)
  · skip
    refine zX_run (n' := 10) (ls' := [some (.inr (.inr (9, 0))), some (.inl s), some (.inl b), none, none, none, none, none, none, none]) (st' := [.inl (-2)]) (σ' := σ) 1 rfl ?_
    exact zX_ret rfl rfl (h1 a1)
  · skip
    refine zX_run (n' := 7) (ls' := [some (.inr (.inr (9, 0))), some (.inl s), some (.inl b), none, none, none, none, none, none, none]) (st' := [.inl 99999, .inl 0, .inl b]) (σ' := σ) 3 rfl ?_
    refine zX_call rfl rfl ?_
    refine zs_104 (fun a2 => ?_) (fun a3 => ?_)
    · skip
      refine zX_run (n' := 14) (ls' := [some (.inr (.inr (9, 0))), some (.inl s), some (.inl b), none, none, none, none, none, none, none]) (st' := [.inl 96, .inr (.inr (0, 0))]) (σ' := σ) 4 rfl ?_
      refine zX_call rfl rfl ?_
      refine ys_2 (o1 a1 a2) (o2 a1 a2) (fun G1 a4 a5 a6 => ?_)
      · skip
        refine zX_run (n' := 19) (ls' := [some (.inr (.inr (9, 0))), some (.inl s), some (.inl b), none, none, none, none, none, none, none]) (st' := [.inl (-1), .inl (-1), .inr (.inr (0, 1))]) (σ' := (zG σ G1)) 4 rfl ?_
        exact h2 a1 a2 G1 a4 a5 a6
    · skip
      refine zX_run (n' := 10) (ls' := [some (.inr (.inr (9, 0))), some (.inl s), some (.inl b), none, none, none, none, none, none, none]) (st' := [.inl (-2)]) (σ' := σ) 2 rfl ?_
      exact zX_ret rfl rfl (h3 a1 a3)
-- X9_dry
theorem zb_97c {d : Nat} {σ : zS} {Q : Option zV → zS → Prop} {s b : Int}
    (h1 : zX (d + 20) 97 28 [some (.inr (.inr (9, 0))), some (.inl s), some (.inl b), some (.inl (-1)), some (.inr (.inl 0)), none, some (.inl 0), some (.inl 0), none, none] [] σ Q) :
    zX (d + 20) 97 20 [some (.inr (.inr (9, 0))), some (.inl s), some (.inl b), none, none, none, none, none, none, none] [] σ Q := by
  refine zX_run (n' := 28) (ls' := [some (.inr (.inr (9, 0))), some (.inl s), some (.inl b), some (.inl (-1)), some (.inr (.inl 0)), none, some (.inl 0), some (.inl 0), none, none]) (st' := []) (σ' := σ) 8 rfl ?_
  exact h1
-- X9_dry
theorem zb_97l {d : Nat} {σ : zS} {Q : Option zV → zS → Prop} {s b best least set i : Int} {x y : Option zV}
    (h1 : zX (d + 20) 97 31 [some (.inr (.inr (9, 0))), some (.inl s), some (.inl b), some (.inl best), some (.inr (.inl least)), none, some (.inl set), some (.inl i), x, y] [.inl s, .inl 1, .inl i] σ Q) :
    zX (d + 20) 97 28 [some (.inr (.inr (9, 0))), some (.inl s), some (.inl b), some (.inl best), some (.inr (.inl least)), none, some (.inl set), some (.inl i), x, y] [] σ Q := by
  refine zX_run (n' := 31) (ls' := [some (.inr (.inr (9, 0))), some (.inl s), some (.inl b), some (.inl best), some (.inr (.inl least)), none, some (.inl set), some (.inl i), x, y]) (st' := [.inl s, .inl 1, .inl i]) (σ' := σ) 3 rfl ?_
  exact h1
-- X9_dry
theorem zb_97m {d : Nat} {σ : zS} {Q : Option zV → zS → Prop} {s b best least set i v : Int} {x y : Option zV}
    (h1 : zBin 6 1 v ≤ i → Q (some (.inl best)) σ)
    (h2 : ¬ zBin 6 1 v ≤ i → zX (d + 20) 97 36 [some (.inr (.inr (9, 0))), some (.inl s), some (.inl b), some (.inl best), some (.inr (.inl least)), none, some (.inl set), some (.inl i), x, y] [.inl set, .inr (.inr (9, 0))] σ Q) :
    zX (d + 20) 97 32 [some (.inr (.inr (9, 0))), some (.inl s), some (.inl b), some (.inl best), some (.inr (.inl least)), none, some (.inl set), some (.inl i), x, y] [.inl v, .inl 1, .inl i] σ Q := by
  refine zX_run (n' := 33) (ls' := [some (.inr (.inr (9, 0))), some (.inl s), some (.inl b), some (.inl best), some (.inr (.inl least)), none, some (.inl set), some (.inl i), x, y]) (st' := [.inl (zBin 6 1 v), .inl i]) (σ' := σ) 1 rfl ?_
  refine zX_c3 rfl (fun a1 => ?_) (fun a1 => ?_)
  · skip
    refine zX_run (n' := 64) (ls' := [some (.inr (.inr (9, 0))), some (.inl s), some (.inl b), some (.inl best), some (.inr (.inl least)), none, some (.inl set), some (.inl i), x, y]) (st' := [.inl best]) (σ' := σ) 1 rfl ?_
    exact zX_ret rfl rfl (h1 a1)
  · skip
    refine zX_run (n' := 36) (ls' := [some (.inr (.inr (9, 0))), some (.inl s), some (.inl b), some (.inl best), some (.inr (.inl least)), none, some (.inl set), some (.inl i), x, y]) (st' := [.inl set, .inr (.inr (9, 0))]) (σ' := σ) 2 rfl ?_
    exact h2 a1
-- X9_dry
theorem zb_97n {d : Nat} {σ : zS} {Q : Option zV → zS → Prop} {s b best least set i v : Int} {x y : Option zV}
    (h1 : best = (-1) → zX (d + 20) 97 45 [some (.inr (.inr (9, 0))), some (.inl s), some (.inl b), some (.inl best), some (.inr (.inl least)), none, some (.inl set), some (.inl i), some (.inr (.inl v)), none] [] σ Q)
    (h2 : ¬ best = (-1) → least < v → zX (d + 20) 97 55 [some (.inr (.inr (9, 0))), some (.inl s), some (.inl b), some (.inl best), some (.inr (.inl least)), none, some (.inl set), some (.inl i), some (.inr (.inl v)), none] [] σ Q)
    (h3 : ¬ best = (-1) → v = least → zX (d + 20) 97 55 [some (.inr (.inr (9, 0))), some (.inl s), some (.inl b), some (.inl best), some (.inr (.inl least)), none, some (.inl set), some (.inl i), some (.inr (.inl v)), none] [] σ Q)
    (h4 : ¬ best = (-1) → v < least → zX (d + 20) 97 45 [some (.inr (.inr (9, 0))), some (.inl s), some (.inl b), some (.inl best), some (.inr (.inl least)), none, some (.inl set), some (.inl i), some (.inr (.inl v)), none] [] σ Q) :
    zX (d + 20) 97 37 [some (.inr (.inr (9, 0))), some (.inl s), some (.inl b), some (.inl best), some (.inr (.inl least)), none, some (.inl set), some (.inl i), x, y] [.inr (.inl v)] σ Q := by
  refine zX_run (n' := 40) (ls' := [some (.inr (.inr (9, 0))), some (.inl s), some (.inl b), some (.inl best), some (.inr (.inl least)), none, some (.inl set), some (.inl i), some (.inr (.inl v)), none]) (st' := [.inl (-1), .inl best]) (σ' := σ) 3 rfl ?_
  refine zX_c0 rfl (fun a1 => ?_) (fun a1 => ?_)
  · skip
    exact h1 a1
  · skip
    refine zX_run (n' := 43) (ls' := [some (.inr (.inr (9, 0))), some (.inl s), some (.inl b), some (.inl best), some (.inr (.inl least)), none, some (.inl set), some (.inl i), some (.inr (.inl v)), none]) (st' := [.inr (.inl least), .inr (.inl v)]) (σ' := σ) 2 rfl ?_
    refine zX_lc rfl (fun a2 => ?_) (fun a2 => ?_) (fun a2 => ?_)
    · skip
      refine zX_run (n' := 55) (ls' := [some (.inr (.inr (9, 0))), some (.inl s), some (.inl b), some (.inl best), some (.inr (.inl least)), none, some (.inl set), some (.inl i), some (.inr (.inl v)), none]) (st' := []) (σ' := σ) 1 rfl ?_
      exact h2 a1 a2
    · skip
      refine zX_run (n' := 55) (ls' := [some (.inr (.inr (9, 0))), some (.inl s), some (.inl b), some (.inl best), some (.inr (.inl least)), none, some (.inl set), some (.inl i), some (.inr (.inl v)), none]) (st' := []) (σ' := σ) 1 rfl ?_
      exact h3 a1 a2
    · skip
      refine zX_run (n' := 45) (ls' := [some (.inr (.inr (9, 0))), some (.inl s), some (.inl b), some (.inl best), some (.inr (.inl least)), none, some (.inl set), some (.inl i), some (.inr (.inl v)), none]) (st' := []) (σ' := σ) 1 rfl ?_
      exact h4 a1 a2
-- X9_dry
theorem zb_97o {d : Nat} {σ : zS} {Q : Option zV → zS → Prop} {s b best least set i v : Int}
    (h1 : zX (d + 20) 97 49 [some (.inr (.inr (9, 0))), some (.inl s), some (.inl b), some (.inl best), some (.inr (.inl least)), none, some (.inl set), some (.inl i), some (.inr (.inl v)), none] [.inl b, .inl set, .inr (.inr (0, 1))] σ Q) :
    zX (d + 20) 97 45 [some (.inr (.inr (9, 0))), some (.inl s), some (.inl b), some (.inl best), some (.inr (.inl least)), none, some (.inl set), some (.inl i), some (.inr (.inl v)), none] [] σ Q := by
  refine zX_run (n' := 49) (ls' := [some (.inr (.inr (9, 0))), some (.inl s), some (.inl b), some (.inl best), some (.inr (.inl least)), none, some (.inl set), some (.inl i), some (.inr (.inl v)), none]) (st' := [.inl b, .inl set, .inr (.inr (0, 1))]) (σ' := σ) 4 rfl ?_
  exact h1
-- X9_dry
theorem zb_97p {d : Nat} {σ : zS} {Q : Option zV → zS → Prop} {s b best least set i v u : Int}
    (h1 : u = 0 → zX (d + 20) 97 55 [some (.inr (.inr (9, 0))), some (.inl s), some (.inl b), some (.inl best), some (.inr (.inl least)), none, some (.inl set), some (.inl i), some (.inr (.inl v)), none] [] σ Q)
    (h2 : ¬ u = 0 → zX (d + 20) 97 55 [some (.inr (.inr (9, 0))), some (.inl s), some (.inl b), some (.inl set), some (.inr (.inl v)), none, some (.inl set), some (.inl i), some (.inr (.inl v)), none] [] σ Q) :
    zX (d + 20) 97 50 [some (.inr (.inr (9, 0))), some (.inl s), some (.inl b), some (.inl best), some (.inr (.inl least)), none, some (.inl set), some (.inl i), some (.inr (.inl v)), none] [.inl u] σ Q := by
  refine zX_i0 rfl (fun a1 => ?_) (fun a1 => ?_)
  · skip
    exact h1 a1
  · skip
    refine zX_run (n' := 55) (ls' := [some (.inr (.inr (9, 0))), some (.inl s), some (.inl b), some (.inl set), some (.inr (.inl v)), none, some (.inl set), some (.inl i), some (.inr (.inl v)), none]) (st' := []) (σ' := σ) 4 rfl ?_
    exact h2 a1
-- X9_dry
theorem zb_97q {d : Nat} {σ : zS} {Q : Option zV → zS → Prop} {s b best least set i v : Int}
    (h1 : zX (d + 20) 97 28 [some (.inr (.inr (9, 0))), some (.inl s), some (.inl b), some (.inl best), some (.inr (.inl least)), none, some (.inl (zBin 3 (zW (set - s)) s)), some (.inl (zW (i + 1))), some (.inr (.inl v)), none] [] σ Q) :
    zX (d + 20) 97 55 [some (.inr (.inr (9, 0))), some (.inl s), some (.inl b), some (.inl best), some (.inr (.inl least)), none, some (.inl set), some (.inl i), some (.inr (.inl v)), none] [] σ Q := by
  refine zX_run (n' := 28) (ls' := [some (.inr (.inr (9, 0))), some (.inl s), some (.inl b), some (.inl best), some (.inr (.inl least)), none, some (.inl (zBin 3 (zW (set - s)) s)), some (.inl (zW (i + 1))), some (.inr (.inl v)), none]) (st' := []) (σ' := σ) 8 rfl ?_
  exact h1
-- X10_dry
theorem zb_182 {d : Nat} {σ : zS} {Q : Option zV → zS → Prop} {s : Int} {b : Int}
    (h1 : s < 0 → Q (some (.inl (-2))) σ)
    (h2 : ¬ s < 0 → zBin 6 1 (σ.1 10 0 4) ≤ s → Q (some (.inl (-2))) σ)
    (h3 : ¬ s < 0 → ¬ zBin 6 1 (σ.1 10 0 4) ≤ s → b < 0 → Q (some (.inl (-2))) σ)
    (h4 : ¬ s < 0 → ¬ zBin 6 1 (σ.1 10 0 4) ≤ s → ¬ b < 0 → b ≤ 99999 → zX (d + 10) 182 19 [some (.inr (.inr (10, 0))), some (.inl s), some (.inl b), some (.inl 0), some (.inl 0), none, none, none, none, none, none, none] [] σ Q)
    (h5 : ¬ s < 0 → ¬ zBin 6 1 (σ.1 10 0 4) ≤ s → ¬ b < 0 → ¬ b ≤ 99999 → Q (some (.inl (-2))) σ) :
    zM (d + 10) 182 [.inr (.inr (10, 0)), .inl s, .inl b] σ Q := by
  refine zX_run (n' := 1) (ls' := [some (.inr (.inr (10, 0))), some (.inl s), some (.inl b), none, none, none, none, none, none, none, none, none]) (st' := [.inl s]) (σ' := σ) 1 rfl ?_
  refine zX_i2 rfl (fun a1 => ?_) (fun a1 => ?_)
  · skip
    refine zX_run (n' := 14) (ls' := [some (.inr (.inr (10, 0))), some (.inl s), some (.inl b), none, none, none, none, none, none, none, none, none]) (st' := [.inl (-2)]) (σ' := σ) 1 rfl ?_
    exact zX_ret rfl rfl (h1 a1)
  · skip
    refine zX_run (n' := 7) (ls' := [some (.inr (.inr (10, 0))), some (.inl s), some (.inl b), none, none, none, none, none, none, none, none, none]) (st' := [.inl (zBin 6 1 (σ.1 10 0 4)), .inl s]) (σ' := σ) 5 rfl ?_
    refine zX_c3 rfl (fun a2 => ?_) (fun a2 => ?_)
    · skip
      refine zX_run (n' := 14) (ls' := [some (.inr (.inr (10, 0))), some (.inl s), some (.inl b), none, none, none, none, none, none, none, none, none]) (st' := [.inl (-2)]) (σ' := σ) 1 rfl ?_
      exact zX_ret rfl rfl (h2 a1 a2)
    · skip
      refine zX_run (n' := 9) (ls' := [some (.inr (.inr (10, 0))), some (.inl s), some (.inl b), none, none, none, none, none, none, none, none, none]) (st' := [.inl b]) (σ' := σ) 1 rfl ?_
      refine zX_i2 rfl (fun a3 => ?_) (fun a3 => ?_)
      · skip
        refine zX_run (n' := 14) (ls' := [some (.inr (.inr (10, 0))), some (.inl s), some (.inl b), none, none, none, none, none, none, none, none, none]) (st' := [.inl (-2)]) (σ' := σ) 1 rfl ?_
        exact zX_ret rfl rfl (h3 a1 a2 a3)
      · skip
        refine zX_run (n' := 12) (ls' := [some (.inr (.inr (10, 0))), some (.inl s), some (.inl b), none, none, none, none, none, none, none, none, none]) (st' := [.inl 99999, .inl b]) (σ' := σ) 2 rfl ?_
        refine zX_c5 rfl (fun a4 => ?_) (fun a4 => ?_)
        · skip
          refine zX_run (n' := 19) (ls' := [some (.inr (.inr (10, 0))), some (.inl s), some (.inl b), some (.inl 0), some (.inl 0), none, none, none, none, none, none, none]) (st' := []) (σ' := σ) 4 rfl ?_
          exact h4 a1 a2 a3 a4
        · skip
          refine zX_run (n' := 14) (ls' := [some (.inr (.inr (10, 0))), some (.inl s), some (.inl b), none, none, none, none, none, none, none, none, none]) (st' := [.inl (-2)]) (σ' := σ) 1 rfl ?_
          exact zX_ret rfl rfl (h5 a1 a2 a3 a4)
-- X10_dry
theorem zb_182a {d : Nat} {σ : zS} {Q : Option zV → zS → Prop} {s b n h : Int} {x0 x1 x2 x3 x4 x5 x6 : Option zV}
    (h1 : σ.1 10 0 4 ≤ h → n ≤ 6 → zX (d + 10) 182 38 [some (.inr (.inr (10, 0))), some (.inl s), some (.inl b), some (.inl n), some (.inl h), x0, x1, x2, x3, x4, x5, x6] [] σ Q)
    (h2 : σ.1 10 0 4 ≤ h → ¬ n ≤ 6 → Q (some (.inl (-2))) σ)
    (h3 : ¬ σ.1 10 0 4 ≤ h → zX (d + 10) 182 19 [some (.inr (.inr (10, 0))), some (.inl s), some (.inl b), some (.inl (zW (n + (zBin 3 (zBin 7 s h) 1)))), some (.inl (zW (h + 1))), x0, x1, x2, x3, x4, x5, x6] [] σ Q) :
    zX (d + 10) 182 19 [some (.inr (.inr (10, 0))), some (.inl s), some (.inl b), some (.inl n), some (.inl h), x0, x1, x2, x3, x4, x5, x6] [] σ Q := by
  refine zX_run (n' := 22) (ls' := [some (.inr (.inr (10, 0))), some (.inl s), some (.inl b), some (.inl n), some (.inl h), x0, x1, x2, x3, x4, x5, x6]) (st' := [.inl (σ.1 10 0 4), .inl h]) (σ' := σ) 3 rfl ?_
  refine zX_c3 rfl (fun a1 => ?_) (fun a1 => ?_)
  · skip
    refine zX_run (n' := 35) (ls' := [some (.inr (.inr (10, 0))), some (.inl s), some (.inl b), some (.inl n), some (.inl h), x0, x1, x2, x3, x4, x5, x6]) (st' := [.inl 6, .inl n]) (σ' := σ) 2 rfl ?_
    refine zX_c5 rfl (fun a2 => ?_) (fun a2 => ?_)
    · skip
      exact h1 a1 a2
    · skip
      refine zX_run (n' := 37) (ls' := [some (.inr (.inr (10, 0))), some (.inl s), some (.inl b), some (.inl n), some (.inl h), x0, x1, x2, x3, x4, x5, x6]) (st' := [.inl (-2)]) (σ' := σ) 1 rfl ?_
      exact zX_ret rfl rfl (h2 a1 a2)
  · skip
    refine zX_run (n' := 19) (ls' := [some (.inr (.inr (10, 0))), some (.inl s), some (.inl b), some (.inl (zW (n + (zBin 3 (zBin 7 s h) 1)))), some (.inl (zW (h + 1))), x0, x1, x2, x3, x4, x5, x6]) (st' := []) (σ' := σ) 10 rfl ?_
    exact h3 a1
def uSt (g : Nat → Int) (x : Nat) : Nat → Int
  | 0 => 0
  | n + 1 => if x / 2 ^ n % 2 = 1 then zWl (uSt g x n + g n) else uSt g x n
theorem zBit_1 {x h : Nat} (hx : x < 65536) (hh : h < 16) : (zBin 3 (zBin 7 (x : Int) (h : Int)) 1 = 1 ↔ x / 2 ^ h % 2 = 1) := by
  rw [zBit (by omega) (by omega)]
  generalize x / 2 ^ h % 2 = y
  omega
theorem zs_118 {d : Nat} {s : zS} {Q : Option zV → zS → Prop} {g : Nat → Int} {N x : Nat} (n8 : s.1 8 0 8 = (N : Int)) (N16 : N ≤ 16) (hx : x < 65536) (e0 : ∀ h, h < N → uSw (s.1 18 (16 * 0 + h)) 0 96 = g h) (q : Q (some (.inr (.inl (uSt g x N)))) s) : zM (d + 12) 118 [.inr (.inr (9, 0)), .inl (x : Int)] s Q := by
  refine zb_118 ?_
  refine zLoop (P := fun h => zX (d + 12) 118 4 [some (.inr (.inr (9, 0))), some (.inl (x : Int)), some (.inr (.inl (uSt g x h))), none, some (.inl (h : Int))] [] s Q) (k := 0) (N := N) (Nat.zero_le _) ?_ (fun h _ hh ih => ?_)
  · have le : s.1 8 0 8 ≤ (N : Int) := Int.le_of_eq n8
    exact zb_118l (fun a => absurd le a) (fun a => absurd le a) (fun _ => q) (fun a => absurd le a) (fun a => absurd le a)
  · have nl : ¬ s.1 8 0 8 ≤ (h : Int) := by rw [n8]; clear q ih; omega
    have h16 : h < 16 := Nat.lt_of_lt_of_le hh N16
    have hz : zW ((h : Int) + 1) = ((h + 1 : Nat) : Int) := zWs (by clear q ih; omega)
    have ir : (0 : Int) ≤ (h : Int) ∧ (h : Int) < 16 := by clear q ih; omega
    have zb := zBit_1 hx h16
    refine zb_118l (fun _ _ => ir) (fun _ _ => by decide) (fun a => absurd a nl) (fun _ c => ?_) (fun _ c => ?_)
    · have e : uSt g x (h + 1) = uSt g x h := if_neg (fun k => c (zb.mpr k))
      rw [e] at ih
      rw [hz]; exact ih
    · have e : uSt g x (h + 1) = zWl (uSt g x h + g h) := if_pos (zb.mp c)
      rw [e, ← e0 h hh] at ih
      rw [hz]; exact ih
theorem cOth_t1 {t : zS} {G G3 : Nat → Nat → Nat → Int} (a : cOth t G 1) (b : cOth (zG t G) G3 1) : cOth t G3 1 := by
  have fkk : ∀ k, 16 ≤ k → k ≤ 27 → fk k = true := fun k h1 h2 => by
    rcases (show k = 16 ∨ k = 17 ∨ k = 18 ∨ k = 19 ∨ k = 20 ∨ k = 21 ∨ k = 22 ∨ k = 23 ∨ k = 24 ∨ k = 25 ∨ k = 26 ∨ k = 27 by omega) with rfl | rfl | rfl | rfl | rfl | rfl | rfl | rfl | rfl | rfl | rfl | rfl <;> rfl
  have e : ∀ k n j, 16 ≤ k → k ≤ 27 → (zG t G).1 k n j = G k n j := fun k n j h1 h2 => by
    show (if fk k = true then G k else t.1 k) n j = _
    rw [if_pos (fkk k h1 h2)]
  exact ⟨fun n j h => ⟨((b.1 n j h).1).trans (a.1 n j h).1, ((b.1 n j h).2.1).trans (a.1 n j h).2.1, ((b.1 n j h).2.2.1).trans (a.1 n j h).2.2.1, ((b.1 n j h).2.2.2).trans (a.1 n j h).2.2.2⟩,
    fun k h1 h2 n j h => (b.2.1 k h1 h2 n j h).trans ((e k n j h1 (by omega)).trans (a.2.1 k h1 h2 n j h)),
    fun k h1 h2 n j h => (b.2.2 k h1 h2 n j h).trans ((e k n j (by omega) h2).trans (a.2.2 k h1 h2 n j h))⟩
/-- the trial set dry and begun anew -/
def cRd1 (t : zS) (G : Nat → Nat → Nat → Int) (x : Int) : Prop :=
  (∀ n j, G 26 n j = if j = 0 ∧ 7 ≤ n ∧ n < 14 then t.1 3 (7 * 0 + (n - 7)) 2 else t.1 26 n j) ∧ (∀ n j, G 27 n j = if j = 0 ∧ 7 ≤ n ∧ n < 14 then 0 else t.1 27 n j) ∧
  (∀ n j, G 0 n j = if n = 1 ∧ j = 11 then 0 else if n = 1 ∧ j = 9 then x else t.1 0 n j) ∧ (∀ k, fk k = true → ¬ k = 0 → ¬ k = 26 → ¬ k = 27 → G k = t.1 k)
theorem cFl_dry {t : zS} {G : Nat → Nat → Nat → Int} {D D' : uT} {x : Int} {k rd : Nat} (hD : ∀ f, ¬ f = 19 → D f = D' f) (h0 : D 19 0 = D' 19 0) (h1 : D' 19 1 = x) (hx : 0 ≤ x ∧ x < 65536) (l0 : ∀ r, r < 7 → ¬ D 3 r = 0 → t.1 3 (7 * 0 + r) 2 = D 5 r) (C : cRd1 t G x) (F : cFl t 1 D k rd) : cFl (zG t G) 1 D' 0 rd ∧ cOth t G 1 := by
  obtain ⟨⟨w1, w2, w3, w4, w5, w6⟩, ⟨g1, g2, g3, g4, g5⟩, od, ⟨a1, a2, a3, a4, a5⟩, rm, -, -⟩ := F
  obtain ⟨c1, c2, c3, c4⟩ := C
  have n : uN D' = uN D := by unfold uN; rw [h0]
  have e0 : ∀ j, ¬ j = 11 → ¬ j = 9 → (zG t G).1 0 1 j = t.1 0 1 j := fun j x1 x2 => (c3 1 j).trans (by rw [if_neg (by omega), if_neg (by omega)])
  have e11 : (zG t G).1 0 1 11 = 0 := (c3 1 11).trans (if_pos ⟨rfl, rfl⟩)
  have e9 : (zG t G).1 0 1 9 = x := (c3 1 9).trans (by rw [if_neg (by decide), if_pos ⟨rfl, rfl⟩])
  have e13 : (zG t G).1 13 = t.1 13 := c4 13 rfl (by decide) (by decide) (by decide)
  have e14 : (zG t G).1 14 = t.1 14 := c4 14 rfl (by decide) (by decide) (by decide)
  have e15 : (zG t G).1 15 = t.1 15 := c4 15 rfl (by decide) (by decide) (by decide)
  have e16 : (zG t G).1 16 = t.1 16 := c4 16 rfl (by decide) (by decide) (by decide)
  have tx : ∀ h, cTx (zG t G) 1 h = cTx t 1 h := fun h => by
    unfold cTx
    rw [e0 8 (by decide) (by decide)]; rfl
  have pt : ∀ h p, uPart D' h p = uPart D h p := fun h p => by
    unfold uPart uCode
    rw [hD 9 (by decide), hD 16 (by decide), hD 17 (by decide), hD 18 (by decide)]
  have wb : ∀ h m lev, uWb D' h m lev = uWb D h m lev := fun h m lev => by
    unfold uWb uSays uAsks uNm
    rw [pt, pt, hD 1 (by decide), hD 8 (by decide), hD 9 (by decide), hD 10 (by decide), hD 11 (by decide), hD 12 (by decide)]
  have oc : uOrdC D' = uOrdC D := by
    unfold uOrdC uLtC
    rw [n, hD 8 (by decide), hD 10 (by decide), hD 12 (by decide)]
  have e8 : ∀ h j, j < 7 → D (8 + j) h = D' (8 + j) h := fun h j hj => by rw [hD (8 + j) (by omega)]
  refine ⟨⟨⟨fun r m hr hm => ?_, fun r hr => ?_, fun r hr ht => ?_, ?_, ?_, fun h j hh hj => ?_⟩, ⟨fun r m hr hm => ?_, fun h hh => ?_, ?_, g4, fun h m hh hm => ?_⟩, ?_, ⟨e11, (e0 10 (by decide) (by decide)).trans a2, (e0 4 (by decide) (by decide)).trans a3, by decide, a5⟩, fun m hm => ?_, fun r hr ht => ?_, fun m hm => absurd hm (Nat.not_lt_zero _)⟩, ?_⟩
  · rw [← hD 0 (by decide)]; exact w1 r m hr hm
  · rw [← hD 2 (by decide), ← hD 3 (by decide)]; exact w2 r hr
  · rw [← hD 3 (by decide)] at ht
    rw [← hD 4 (by decide), ← hD 6 (by decide), ← hD 7 (by decide), e15]; exact w3 r hr ht
  · rw [← h0]; exact w4
  · rw [← h0]; exact w5
  · rw [n] at hh
    rw [← e8 h j hj]; exact w6 h j hh hj
  · rw [← hD 1 (by decide)]; exact g1 r m hr hm
  · rw [n] at hh
    have g := g2 h hh
    rw [tx, pt, pt]
    refine ⟨?_, g.2⟩
    have t1 := g.1
    unfold cTxr at t1 ⊢
    rw [e0 8 (by decide) (by decide)]; exact t1
  · rw [h1]; exact ⟨e9, hx⟩
  · rw [n] at hh
    rw [e0 7 (by decide) (by decide), ← hD 15 (by decide)]; exact g5 h m hh hm
  · unfold cOrd
    rw [oc, e14]; exact od
  · have u := rm m hm
    refine ⟨?_, fun h hh => ?_⟩
    · rw [e13, e0 7 (by decide) (by decide)]; exact u.1
    · rw [n] at hh
      rw [e16, u.2 h hh]
      unfold cRdv
      rw [tx, hD 13 (by decide), hD 14 (by decide), hD 15 (by decide), wb]; rfl
  · rw [← hD 3 (by decide)] at ht
    rw [← hD 5 (by decide)]
    refine ⟨(c1 (7 * 1 + r) 0).trans ?_, (c2 (7 * 1 + r) 0).trans ?_⟩
    · rw [if_pos ⟨rfl, by omega, by omega⟩, show 7 * 1 + r - 7 = r by omega]; exact l0 r hr ht
    · rw [if_pos ⟨rfl, by omega, by omega⟩]
  · refine ⟨fun n j h => ⟨(c3 n j).trans (by rw [if_neg (fun k => h k.1), if_neg (fun k => h k.1)]), congrFun (congrFun e13 n) j, congrFun (congrFun e14 n) j, congrFun (congrFun e15 n) j⟩, fun k k1 k2 n j h => ?_, fun k k1 k2 n j h => ?_⟩
    · rcases (show k = 16 ∨ k = 17 ∨ k = 18 by omega) with rfl | rfl | rfl
      · exact congrFun (congrFun (c4 16 rfl (by decide) (by decide) (by decide)) n) j
      · exact congrFun (congrFun (c4 17 rfl (by decide) (by decide) (by decide)) n) j
      · exact congrFun (congrFun (c4 18 rfl (by decide) (by decide) (by decide)) n) j
    · by_cases k26 : k = 26
      · subst k26; exact (c1 n j).trans (if_neg (by omega))
      · by_cases k27 : k = 27
        · subst k27; exact (c2 n j).trans (if_neg (by omega))
        · have f : fk k = true := by
            rcases (show k = 19 ∨ k = 20 ∨ k = 21 ∨ k = 22 ∨ k = 23 ∨ k = 24 ∨ k = 25 by omega) with rfl | rfl | rfl | rfl | rfl | rfl | rfl <;> rfl
          exact congrFun (congrFun (c4 k f (by omega) k26 k27) n) j
