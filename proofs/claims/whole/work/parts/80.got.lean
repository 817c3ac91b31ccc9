-- one text for all states (wip/whole/gen/laws55.py)
-- X9_stateGets
theorem zb_117 {d : Nat} {σ : zS} {Q : Option zV → zS → Prop} {t : Int} {s : Int} {y : Int}
    (h1 : zX (d + 15) 117 8 [some (.inr (.inr (9, 0))), some (.inl t), some (.inl s), some (.inl y), some (.inl (zW (y * 12))), none, none, none] [.inl t, .inl (-1), .inr (.inr (0, 1))] σ Q) :
    zM (d + 15) 117 [.inr (.inr (9, 0)), .inl t, .inl s, .inl y] σ Q := by
  refine zX_run (n' := 8) (ls' := [some (.inr (.inr (9, 0))), some (.inl t), some (.inl s), some (.inl y), some (.inl (zW (y * 12))), none, none, none]) (st' := [.inl t, .inl (-1), .inr (.inr (0, 1))]) (σ' := σ) 8 rfl ?_
  exact h1
-- X9_stateGets
theorem zb_117b {d : Nat} {σ : zS} {Q : Option zV → zS → Prop} {t s y a : Int}
    (h1 : zX (d + 15) 117 14 [some (.inr (.inr (9, 0))), some (.inl t), some (.inl s), some (.inl y), some (.inl a), none, none, none] [.inl (zW (a + 12)), .inr (.inr (0, 1))] σ Q) :
    zX (d + 15) 117 9 [some (.inr (.inr (9, 0))), some (.inl t), some (.inl s), some (.inl y), some (.inl a), none, none, none] [] σ Q := by
  refine zX_run (n' := 14) (ls' := [some (.inr (.inr (9, 0))), some (.inl t), some (.inl s), some (.inl y), some (.inl a), none, none, none]) (st' := [.inl (zW (a + 12)), .inr (.inr (0, 1))]) (σ' := σ) 5 rfl ?_
  exact h1
-- X9_stateGets
theorem zb_117c {d : Nat} {σ : zS} {Q : Option zV → zS → Prop} {t s y a : Int}
    (h1 : zX (d + 15) 117 19 [some (.inr (.inr (9, 0))), some (.inl t), some (.inl s), some (.inl y), some (.inl a), some (.inr (.inl 0)), none, some (.inl 0)] [] σ Q) :
    zX (d + 15) 117 15 [some (.inr (.inr (9, 0))), some (.inl t), some (.inl s), some (.inl y), some (.inl a), none, none, none] [] σ Q := by
  refine zX_run (n' := 19) (ls' := [some (.inr (.inr (9, 0))), some (.inl t), some (.inl s), some (.inl y), some (.inl a), some (.inr (.inl 0)), none, some (.inl 0)]) (st' := []) (σ' := σ) 4 rfl ?_
  exact h1
-- X9_stateGets
theorem zb_117l {d : Nat} {σ : zS} {Q : Option zV → zS → Prop} {t s y a v h : Int}
    (o1 : ¬ σ.1 8 0 8 ≤ h → (0 : Int) ≤ h ∧ h < (16 : Int))
    (o2 : ¬ σ.1 8 0 8 ≤ h → σ.1 1 (16 * 0 + h.toNat) 1 = s → 0 ≤ h ∧ h < 16)
    (o3 : ¬ σ.1 8 0 8 ≤ h → σ.1 1 (16 * 0 + h.toNat) 1 = s → 0 ≤ a ∧ a ≤ (zW (a + 12)) ∧ (zW (a + 12)) ≤ 96)
    (h1 : σ.1 8 0 8 ≤ h → Q (some (.inr (.inl v))) σ)
    (h2 : ¬ σ.1 8 0 8 ≤ h → ¬ σ.1 1 (16 * 0 + h.toNat) 1 = s → zX (d + 15) 117 19 [some (.inr (.inr (9, 0))), some (.inl t), some (.inl s), some (.inl y), some (.inl a), some (.inr (.inl v)), none, some (.inl (zW (h + 1)))] [] σ Q)
    (h3 : ¬ σ.1 8 0 8 ≤ h → σ.1 1 (16 * 0 + h.toNat) 1 = s → zX (d + 15) 117 19 [some (.inr (.inr (9, 0))), some (.inl t), some (.inl s), some (.inl y), some (.inl a), some (.inr (.inl (zWl (v + (uSw (σ.1 18 (16 * 1 + h.toNat)) a.toNat ((zW (a + 12)).toNat - a.toNat)))))), none, some (.inl (zW (h + 1)))] [] σ Q) :
    zX (d + 15) 117 19 [some (.inr (.inr (9, 0))), some (.inl t), some (.inl s), some (.inl y), some (.inl a), some (.inr (.inl v)), none, some (.inl h)] [] σ Q := by
  refine zX_run (n' := 23) (ls' := [some (.inr (.inr (9, 0))), some (.inl t), some (.inl s), some (.inl y), some (.inl a), some (.inr (.inl v)), none, some (.inl h)]) (st' := [.inl (σ.1 8 0 8), .inl h]) (σ' := σ) 4 rfl ?_
  refine zX_c3 rfl (fun a1 => ?_) (fun a1 => ?_)
  · skip
    refine zX_run (n' := 46) (ls' := [some (.inr (.inr (9, 0))), some (.inl t), some (.inl s), some (.inl y), some (.inl a), some (.inr (.inl v)), none, some (.inl h)]) (st' := [.inr (.inl v)]) (σ' := σ) 1 rfl ?_
    exact zX_retL rfl rfl (h1 a1)
  · skip
    refine zX_run (n' := 28) (ls' := [some (.inr (.inr (9, 0))), some (.inl t), some (.inl s), some (.inl y), some (.inl a), some (.inr (.inl v)), none, some (.inl h)]) (st' := [.inl h, .inr (.inr (39, 0))]) (σ' := σ) 4 rfl ?_
    refine zX_ald5 (L := 16) rfl (by decide) rfl (o1 a1) ?_
    refine zX_run (n' := 31) (ls' := [some (.inr (.inr (9, 0))), some (.inl t), some (.inl s), some (.inl y), some (.inl a), some (.inr (.inl v)), none, some (.inl h)]) (st' := [.inl s, .inl (σ.1 1 (16 * 0 + h.toNat) 1)]) (σ' := σ) 2 rfl ?_
    refine zX_c1 rfl (fun a2 => ?_) (fun a2 => ?_)
    · skip
      refine zX_run (n' := 19) (ls' := [some (.inr (.inr (9, 0))), some (.inl t), some (.inl s), some (.inl y), some (.inl a), some (.inr (.inl v)), none, some (.inl (zW (h + 1)))]) (st' := []) (σ' := σ) 2 rfl ?_
      exact h2 a1 a2
    · skip
      refine zX_run (n' := 40) (ls' := [some (.inr (.inr (9, 0))), some (.inl t), some (.inl s), some (.inl y), some (.inl a), some (.inr (.inl v)), none, some (.inl h)]) (st' := [.inl (zW (a + 12)), .inl a, .inl h, .inr (.inr (0, 1)), .inr (.inl v)]) (σ' := σ) 8 rfl ?_
      refine zX_call rfl rfl ?_
      refine zs_21 (o2 a1 a2) (o3 a1 a2) ?_
      · skip
        refine zX_run (n' := 19) (ls' := [some (.inr (.inr (9, 0))), some (.inl t), some (.inl s), some (.inl y), some (.inl a), some (.inr (.inl (zWl (v + (uSw (σ.1 18 (16 * 1 + h.toNat)) a.toNat ((zW (a + 12)).toNat - a.toNat)))))), none, some (.inl (zW (h + 1)))]) (st' := []) (σ' := σ) 4 rfl ?_
        exact h3 a1 a2
-- X10_gotBy
theorem zb_179 {d : Nat} {σ : zS} {Q : Option zV → zS → Prop} {t : Int} {s : Int} {y : Int}
    (h1 : zX (d + 7) 179 21 [some (.inr (.inr (10, 0))), some (.inl t), some (.inl s), some (.inl y), some (.inl 4), none, none] [.inr (.inr (10, 0))] (zU (zU (zU (zU (zU (zU (zU (zU σ 102 0 0 (σ.1 70 0 0)) 70 0 0 t) 102 0 1 (σ.1 70 0 1)) 70 0 1 t) 102 0 2 (σ.1 70 0 2)) 70 0 2 t) 102 0 3 (σ.1 70 0 3)) 70 0 3 t) Q) :
    zM (d + 7) 179 [.inr (.inr (10, 0)), .inl t, .inl s, .inl y] σ Q := by
  refine zX_run (n' := 11) (ls' := [some (.inr (.inr (10, 0))), some (.inl t), some (.inl s), some (.inl y), some (.inl 0), none, none]) (st' := [.inl 0, .inr (.inr (70, 0)), .inl 0, .inr (.inr (102, 0))]) (σ' := σ) 11 rfl ?_
  refine zX_ald1 (L := 4) rfl (by decide) rfl (by decide) ?_
  refine zX_ast1 (L := 4) rfl (by decide) rfl (by decide) ?_
  refine zX_run (n' := 17) (ls' := [some (.inr (.inr (10, 0))), some (.inl t), some (.inl s), some (.inl y), some (.inl 0), none, none]) (st' := [.inl t, .inl 0, .inr (.inr (70, 0))]) (σ' := (zU σ 102 0 0 (σ.1 70 0 0))) 4 rfl ?_
  refine zX_ast1 (L := 4) rfl (by decide) rfl (by decide) ?_
  refine zX_run (n' := 11) (ls' := [some (.inr (.inr (10, 0))), some (.inl t), some (.inl s), some (.inl y), some (.inl 1), none, none]) (st' := [.inl 1, .inr (.inr (70, 0)), .inl 1, .inr (.inr (102, 0))]) (σ' := (zU (zU σ 102 0 0 (σ.1 70 0 0)) 70 0 0 t)) 11 rfl ?_
  refine zX_ald1 (L := 4) rfl (by decide) rfl (by decide) ?_
  refine zX_ast1 (L := 4) rfl (by decide) rfl (by decide) ?_
  refine zX_run (n' := 17) (ls' := [some (.inr (.inr (10, 0))), some (.inl t), some (.inl s), some (.inl y), some (.inl 1), none, none]) (st' := [.inl t, .inl 1, .inr (.inr (70, 0))]) (σ' := (zU (zU (zU σ 102 0 0 (σ.1 70 0 0)) 70 0 0 t) 102 0 1 (σ.1 70 0 1))) 4 rfl ?_
  refine zX_ast1 (L := 4) rfl (by decide) rfl (by decide) ?_
  refine zX_run (n' := 11) (ls' := [some (.inr (.inr (10, 0))), some (.inl t), some (.inl s), some (.inl y), some (.inl 2), none, none]) (st' := [.inl 2, .inr (.inr (70, 0)), .inl 2, .inr (.inr (102, 0))]) (σ' := (zU (zU (zU (zU σ 102 0 0 (σ.1 70 0 0)) 70 0 0 t) 102 0 1 (σ.1 70 0 1)) 70 0 1 t)) 11 rfl ?_
  refine zX_ald1 (L := 4) rfl (by decide) rfl (by decide) ?_
  refine zX_ast1 (L := 4) rfl (by decide) rfl (by decide) ?_
  refine zX_run (n' := 17) (ls' := [some (.inr (.inr (10, 0))), some (.inl t), some (.inl s), some (.inl y), some (.inl 2), none, none]) (st' := [.inl t, .inl 2, .inr (.inr (70, 0))]) (σ' := (zU (zU (zU (zU (zU σ 102 0 0 (σ.1 70 0 0)) 70 0 0 t) 102 0 1 (σ.1 70 0 1)) 70 0 1 t) 102 0 2 (σ.1 70 0 2))) 4 rfl ?_
  refine zX_ast1 (L := 4) rfl (by decide) rfl (by decide) ?_
  refine zX_run (n' := 11) (ls' := [some (.inr (.inr (10, 0))), some (.inl t), some (.inl s), some (.inl y), some (.inl 3), none, none]) (st' := [.inl 3, .inr (.inr (70, 0)), .inl 3, .inr (.inr (102, 0))]) (σ' := (zU (zU (zU (zU (zU (zU σ 102 0 0 (σ.1 70 0 0)) 70 0 0 t) 102 0 1 (σ.1 70 0 1)) 70 0 1 t) 102 0 2 (σ.1 70 0 2)) 70 0 2 t)) 11 rfl ?_
  refine zX_ald1 (L := 4) rfl (by decide) rfl (by decide) ?_
  refine zX_ast1 (L := 4) rfl (by decide) rfl (by decide) ?_
  refine zX_run (n' := 17) (ls' := [some (.inr (.inr (10, 0))), some (.inl t), some (.inl s), some (.inl y), some (.inl 3), none, none]) (st' := [.inl t, .inl 3, .inr (.inr (70, 0))]) (σ' := (zU (zU (zU (zU (zU (zU (zU σ 102 0 0 (σ.1 70 0 0)) 70 0 0 t) 102 0 1 (σ.1 70 0 1)) 70 0 1 t) 102 0 2 (σ.1 70 0 2)) 70 0 2 t) 102 0 3 (σ.1 70 0 3))) 4 rfl ?_
  refine zX_ast1 (L := 4) rfl (by decide) rfl (by decide) ?_
  refine zX_run (n' := 21) (ls' := [some (.inr (.inr (10, 0))), some (.inl t), some (.inl s), some (.inl y), some (.inl 4), none, none]) (st' := [.inr (.inr (10, 0))]) (σ' := (zU (zU (zU (zU (zU (zU (zU (zU σ 102 0 0 (σ.1 70 0 0)) 70 0 0 t) 102 0 1 (σ.1 70 0 1)) 70 0 1 t) 102 0 2 (σ.1 70 0 2)) 70 0 2 t) 102 0 3 (σ.1 70 0 3)) 70 0 3 t)) 6 rfl ?_
  exact h1
-- X10_gotBy
theorem zb_179b {d : Nat} {σ : zS} {Q : Option zV → zS → Prop} {t s y : Int} {x1 x2 x3 : Option zV}
    (h1 : zX (d + 7) 179 41 [some (.inr (.inr (10, 0))), some (.inl t), some (.inl s), some (.inl y), some (.inr (.inl 0)), none, some (.inl 0)] [] (zU (zU (zU (zU σ 70 0 0 (σ.1 102 0 0)) 70 0 1 (σ.1 102 0 1)) 70 0 2 (σ.1 102 0 2)) 70 0 3 (σ.1 102 0 3)) Q) :
    zX (d + 7) 179 22 [some (.inr (.inr (10, 0))), some (.inl t), some (.inl s), some (.inl y), x1, x2, x3] [] σ Q := by
  refine zX_run (n' := 33) (ls' := [some (.inr (.inr (10, 0))), some (.inl t), some (.inl s), some (.inl y), some (.inl 0), x2, x3]) (st' := [.inl 0, .inr (.inr (102, 0)), .inl 0, .inr (.inr (70, 0))]) (σ' := σ) 11 rfl ?_
  refine zX_ald1 (L := 4) rfl (by decide) rfl (by decide) ?_
  refine zX_ast1 (L := 4) rfl (by decide) rfl (by decide) ?_
  refine zX_run (n' := 33) (ls' := [some (.inr (.inr (10, 0))), some (.inl t), some (.inl s), some (.inl y), some (.inl 1), x2, x3]) (st' := [.inl 1, .inr (.inr (102, 0)), .inl 1, .inr (.inr (70, 0))]) (σ' := (zU σ 70 0 0 (σ.1 102 0 0))) 11 rfl ?_
  refine zX_ald1 (L := 4) rfl (by decide) rfl (by decide) ?_
  refine zX_ast1 (L := 4) rfl (by decide) rfl (by decide) ?_
  refine zX_run (n' := 33) (ls' := [some (.inr (.inr (10, 0))), some (.inl t), some (.inl s), some (.inl y), some (.inl 2), x2, x3]) (st' := [.inl 2, .inr (.inr (102, 0)), .inl 2, .inr (.inr (70, 0))]) (σ' := (zU (zU σ 70 0 0 (σ.1 102 0 0)) 70 0 1 (σ.1 102 0 1))) 11 rfl ?_
  refine zX_ald1 (L := 4) rfl (by decide) rfl (by decide) ?_
  refine zX_ast1 (L := 4) rfl (by decide) rfl (by decide) ?_
  refine zX_run (n' := 33) (ls' := [some (.inr (.inr (10, 0))), some (.inl t), some (.inl s), some (.inl y), some (.inl 3), x2, x3]) (st' := [.inl 3, .inr (.inr (102, 0)), .inl 3, .inr (.inr (70, 0))]) (σ' := (zU (zU (zU σ 70 0 0 (σ.1 102 0 0)) 70 0 1 (σ.1 102 0 1)) 70 0 2 (σ.1 102 0 2))) 11 rfl ?_
  refine zX_ald1 (L := 4) rfl (by decide) rfl (by decide) ?_
  refine zX_ast1 (L := 4) rfl (by decide) rfl (by decide) ?_
  refine zX_run (n' := 41) (ls' := [some (.inr (.inr (10, 0))), some (.inl t), some (.inl s), some (.inl y), some (.inr (.inl 0)), none, some (.inl 0)]) (st' := []) (σ' := (zU (zU (zU (zU σ 70 0 0 (σ.1 102 0 0)) 70 0 1 (σ.1 102 0 1)) 70 0 2 (σ.1 102 0 2)) 70 0 3 (σ.1 102 0 3))) 9 rfl ?_
  exact h1
-- X10_gotBy
theorem zb_179l {d : Nat} {σ : zS} {Q : Option zV → zS → Prop} {t s y v h : Int}
    (o1 : ¬ σ.1 10 0 4 ≤ h → (0 : Int) ≤ h ∧ h < (17 : Int))
    (o2 : ¬ σ.1 10 0 4 ≤ h → σ.1 61 0 (h.toNat) = s → 0 ≤ h ∧ h < 17)
    (o3 : ¬ σ.1 10 0 4 ≤ h → σ.1 61 0 (h.toNat) = s → 0 ≤ (zW (12 * y)) ∧ (zW (12 * y)) ≤ (zW ((zW (12 * y)) + 12)) ∧ (zW ((zW (12 * y)) + 12)) ≤ 96)
    (h1 : σ.1 10 0 4 ≤ h → Q (some (.inr (.inl v))) σ)
    (h2 : ¬ σ.1 10 0 4 ≤ h → ¬ σ.1 61 0 (h.toNat) = s → zX (d + 7) 179 41 [some (.inr (.inr (10, 0))), some (.inl t), some (.inl s), some (.inl y), some (.inr (.inl v)), none, some (.inl (zW (h + 1)))] [] σ Q)
    (h3 : ¬ σ.1 10 0 4 ≤ h → σ.1 61 0 (h.toNat) = s → zX (d + 7) 179 41 [some (.inr (.inr (10, 0))), some (.inl t), some (.inl s), some (.inl y), some (.inr (.inl (zWl (v + (uSw (fun m => σ.1 92 0 (17 * m + h.toNat)) (zW (12 * y)).toNat ((zW ((zW (12 * y)) + 12)).toNat - (zW (12 * y)).toNat)))))), none, some (.inl (zW (h + 1)))] [] σ Q) :
    zX (d + 7) 179 41 [some (.inr (.inr (10, 0))), some (.inl t), some (.inl s), some (.inl y), some (.inr (.inl v)), none, some (.inl h)] [] σ Q := by
  refine zX_run (n' := 44) (ls' := [some (.inr (.inr (10, 0))), some (.inl t), some (.inl s), some (.inl y), some (.inr (.inl v)), none, some (.inl h)]) (st' := [.inl (σ.1 10 0 4), .inl h]) (σ' := σ) 3 rfl ?_
  refine zX_c3 rfl (fun a1 => ?_) (fun a1 => ?_)
  · skip
    refine zX_run (n' := 68) (ls' := [some (.inr (.inr (10, 0))), some (.inl t), some (.inl s), some (.inl y), some (.inr (.inl v)), none, some (.inl h)]) (st' := [.inr (.inl v)]) (σ' := σ) 1 rfl ?_
    exact zX_retL rfl rfl (h1 a1)
  · skip
    refine zX_run (n' := 48) (ls' := [some (.inr (.inr (10, 0))), some (.inl t), some (.inl s), some (.inl y), some (.inr (.inl v)), none, some (.inl h)]) (st' := [.inl h, .inr (.inr (61, 0))]) (σ' := σ) 3 rfl ?_
    refine zX_ald1 (L := 17) rfl (by decide) rfl (o1 a1) ?_
    refine zX_run (n' := 50) (ls' := [some (.inr (.inr (10, 0))), some (.inl t), some (.inl s), some (.inl y), some (.inr (.inl v)), none, some (.inl h)]) (st' := [.inl s, .inl (σ.1 61 0 (h.toNat))]) (σ' := σ) 1 rfl ?_
    refine zX_c1 rfl (fun a2 => ?_) (fun a2 => ?_)
    · skip
      refine zX_run (n' := 41) (ls' := [some (.inr (.inr (10, 0))), some (.inl t), some (.inl s), some (.inl y), some (.inr (.inl v)), none, some (.inl (zW (h + 1)))]) (st' := []) (σ' := σ) 2 rfl ?_
      exact h2 a1 a2
    · skip
      refine zX_run (n' := 62) (ls' := [some (.inr (.inr (10, 0))), some (.inl t), some (.inl s), some (.inl y), some (.inr (.inl v)), none, some (.inl h)]) (st' := [.inl (zW ((zW (12 * y)) + 12)), .inl (zW (12 * y)), .inl h, .inr (.inr (10, 0)), .inr (.inl v)]) (σ' := σ) 11 rfl ?_
      refine zX_call rfl rfl ?_
      refine zs_160 (o2 a1 a2) (o3 a1 a2) ?_
      · skip
        refine zX_run (n' := 41) (ls' := [some (.inr (.inr (10, 0))), some (.inl t), some (.inl s), some (.inl y), some (.inr (.inl (zWl (v + (uSw (fun m => σ.1 92 0 (17 * m + h.toNat)) (zW (12 * y)).toNat ((zW ((zW (12 * y)) + 12)).toNat - (zW (12 * y)).toNat)))))), none, some (.inl (zW (h + 1)))]) (st' := []) (σ' := σ) 4 rfl ?_
        exact h3 a1 a2
def zR4 (σ : zS) (t : Int) : zS := (fun a n j => if a = 70 ∧ n = 0 ∧ j < 4 then t else σ.1 a n j, σ.2)
def zKp (σ : zS) : zS := (zU (zU (zU (zU σ 102 0 0 (σ.1 70 0 0)) 102 0 1 (σ.1 70 0 1)) 102 0 2 (σ.1 70 0 2)) 102 0 3 (σ.1 70 0 3))
def zS8 (σ : zS) (t : Int) : zS := (zU (zU (zU (zU (zU (zU (zU (zU σ 102 0 0 (σ.1 70 0 0)) 70 0 0 t) 102 0 1 (σ.1 70 0 1)) 70 0 1 t) 102 0 2 (σ.1 70 0 2)) 70 0 2 t) 102 0 3 (σ.1 70 0 3)) 70 0 3 t)
theorem zS8_eq {σ : zS} {t : Int} : zS8 σ t = zR4 (zKp σ) t := by
  refine Prod.ext (funext fun a => funext fun n => funext fun j => ?_) rfl
  by_cases h : a = 70
  · subst h
    show (if 70 = 70 ∧ j = 3 ∧ n = 0 then t else if 70 = 70 ∧ j = 2 ∧ n = 0 then t else if 70 = 70 ∧ j = 1 ∧ n = 0 then t else if 70 = 70 ∧ j = 0 ∧ n = 0 then t else σ.1 70 n j) = if 70 = 70 ∧ n = 0 ∧ j < 4 then t else σ.1 70 n j
    by_cases e : n = 0 ∧ j < 4
    · rw [if_pos (c := 70 = 70 ∧ n = 0 ∧ j < 4) ⟨rfl, e⟩]
      rcases (show j = 0 ∨ j = 1 ∨ j = 2 ∨ j = 3 by omega) with rfl | rfl | rfl | rfl
      · rw [if_neg (by omega), if_neg (by omega), if_neg (by omega), if_pos ⟨rfl, rfl, e.1⟩]
      · rw [if_neg (by omega), if_neg (by omega), if_pos ⟨rfl, rfl, e.1⟩]
      · rw [if_neg (by omega), if_pos ⟨rfl, rfl, e.1⟩]
      · rw [if_pos ⟨rfl, rfl, e.1⟩]
    · rw [if_neg (c := 70 = 70 ∧ n = 0 ∧ j < 4) (fun k => e k.2), if_neg (fun k => e (by omega)), if_neg (fun k => e (by omega)), if_neg (fun k => e (by omega)), if_neg (fun k => e (by omega))]
  · show (if a = 70 ∧ j = 3 ∧ n = 0 then t else if a = 102 ∧ j = 3 ∧ n = 0 then σ.1 70 0 3 else if a = 70 ∧ j = 2 ∧ n = 0 then t else if a = 102 ∧ j = 2 ∧ n = 0 then σ.1 70 0 2 else if a = 70 ∧ j = 1 ∧ n = 0 then t else if a = 102 ∧ j = 1 ∧ n = 0 then σ.1 70 0 1 else if a = 70 ∧ j = 0 ∧ n = 0 then t else if a = 102 ∧ j = 0 ∧ n = 0 then σ.1 70 0 0 else σ.1 a n j) = if a = 70 ∧ n = 0 ∧ j < 4 then t else if a = 102 ∧ j = 3 ∧ n = 0 then σ.1 70 0 3 else if a = 102 ∧ j = 2 ∧ n = 0 then σ.1 70 0 2 else if a = 102 ∧ j = 1 ∧ n = 0 then σ.1 70 0 1 else if a = 102 ∧ j = 0 ∧ n = 0 then σ.1 70 0 0 else σ.1 a n j
    rw [if_neg (c := a = 70 ∧ j = 3 ∧ n = 0) (fun k => h k.1), if_neg (c := a = 70 ∧ j = 2 ∧ n = 0) (fun k => h k.1), if_neg (c := a = 70 ∧ j = 1 ∧ n = 0) (fun k => h k.1), if_neg (c := a = 70 ∧ j = 0 ∧ n = 0) (fun k => h k.1), if_neg (c := a = 70 ∧ n = 0 ∧ j < 4) (fun k => h k.1)]
theorem zR4_back {σ τ : zS} {t : Int} : zU (zU (zU (zU (yR (zR4 (zKp σ) t) τ) 70 0 0 (σ.1 70 0 0)) 70 0 1 (σ.1 70 0 1)) 70 0 2 (σ.1 70 0 2)) 70 0 3 (σ.1 70 0 3) = yR (zKp σ) τ := by
  refine Prod.ext (funext fun a => funext fun n => funext fun j => ?_) rfl
  by_cases h : a = 70
  · subst h
    show (if 70 = 70 ∧ j = 3 ∧ n = 0 then σ.1 70 0 3 else if 70 = 70 ∧ j = 2 ∧ n = 0 then σ.1 70 0 2 else if 70 = 70 ∧ j = 1 ∧ n = 0 then σ.1 70 0 1 else if 70 = 70 ∧ j = 0 ∧ n = 0 then σ.1 70 0 0 else if 70 = 70 ∧ n = 0 ∧ j < 4 then t else σ.1 70 n j) = σ.1 70 n j
    by_cases e : n = 0 ∧ j < 4
    · obtain ⟨rfl, e⟩ := e
      rcases (show j = 0 ∨ j = 1 ∨ j = 2 ∨ j = 3 by omega) with rfl | rfl | rfl | rfl <;> rfl
    · rw [if_neg (fun k => e (by omega)), if_neg (fun k => e (by omega)), if_neg (fun k => e (by omega)), if_neg (fun k => e (by omega)), if_neg (fun k => e k.2)]
  · show (if a = 70 ∧ j = 3 ∧ n = 0 then σ.1 70 0 3 else if a = 70 ∧ j = 2 ∧ n = 0 then σ.1 70 0 2 else if a = 70 ∧ j = 1 ∧ n = 0 then σ.1 70 0 1 else if a = 70 ∧ j = 0 ∧ n = 0 then σ.1 70 0 0 else (if fm a = true then τ.1 a else (zR4 (zKp σ) t).1 a) n j) = (if fm a = true then τ.1 a else (zKp σ).1 a) n j
    rw [if_neg (fun k => h k.1), if_neg (fun k => h k.1), if_neg (fun k => h k.1), if_neg (fun k => h k.1)]
    by_cases m : fm a = true
    · rw [if_pos m, if_pos m]
    · rw [if_neg m, if_neg m]
      exact if_neg (fun k => h k.1)
/-- one text for all states, on both sides -/
theorem yTd_t {s : zS} (R : yRel s) {t : Nat} (ht : (t : Int) < s.1 10 0 6) : cTd s (mD (zR4 s (t : Int))) (-1) (t : Int) ∧ mOk (zR4 s (t : Int)) := by
  obtain ⟨S, G, L, H, C, Tx, Ru, K, Tp, Sh, B⟩ := R
  have X : rTx s t := Tx.2 t ht
  have t6 : t < 6 := by have := Tx.1.2; omega
  have Ru1 : rRul (zR4 s (t : Int)) (t : Int) := fun h hh => by
    have b := (H.2.2 h hh).2.1
    have e : (zR4 s (t : Int)).1 70 0 (s.1 61 0 h).toNat = (t : Int) := if_pos ⟨rfl, rfl, by omega⟩
    have e2 : mRul (zR4 s (t : Int)) (s.1 61 0 h).toNat = t := by unfold mRul; rw [e, Int.toNat_natCast]
    have e3 : cTv (zR4 s (t : Int)) (t : Int) h = t := by unfold cTv; rw [if_neg (by omega), Int.toNat_natCast]
    refine ⟨⟨⟨fun q => absurd q (by omega), fun _ => by omega⟩, ?_⟩, ?_, ?_⟩
    · exact e3.trans e2.symm
    · show 0 ≤ (zR4 s (t : Int)).1 70 0 (s.1 61 0 h).toNat ∧ (zR4 s (t : Int)).1 70 0 (s.1 61 0 h).toNat < 6
      rw [e]; omega
    · show rTx (zR4 s (t : Int)) (mRul (zR4 s (t : Int)) (s.1 61 0 h).toNat)
      rw [e2]; exact X
  have T := rTd (σ := zR4 s (t : Int)) (v := (t : Int)) S G L H C Ru1 K.2
  rw [show (zR4 s (t : Int)).1 10 0 54 = -1 from K.1] at T
  exact ⟨T, rMok (σ := zR4 s (t : Int)) (v := (t : Int)) S G L H C Ru1 (by rw [show (zR4 s (t : Int)).1 10 0 66 = 0 from K.2]; decide)⟩
def uGt (D : uT) (s : Int) (a : Nat) : Nat → Int
  | 0 => 0
  | n + 1 => if D 9 n = s then zWl (uGt D s a n + uSw (fun m => uV D (m + 1) 2 n) a 12) else uGt D s a n
def vGot (D : uT) (s : Int) (a : Nat) : Int := uGt D s a (uN D)
theorem zs_117 {d : Nat} {σ : zS} {Q : Option zV → zS → Prop} (R : yRel σ) {t y : Nat} {s : Int} (ht : (t : Int) < σ.1 10 0 6) (hy : y < 8)
    (q : ∀ x, yE σ x → yRel x → Q (some (.inr (.inl (vGot (mD (zR4 σ (t : Int))) s (12 * y))))) x) : zM (d + 15) 117 [.inr (.inr (9, 0)), .inl (t : Int), .inl s, .inl (y : Int)] σ Q := by
  obtain ⟨T, K⟩ := yTd_t R ht
  have O := K.1
  have N16 := O.2.2.2.2.1
  have hz : zW ((y : Int) * 12) = ((12 * y : Nat) : Int) := by clear q; unfold zW; omega
  have hz2 : zW (((12 * y : Nat) : Int) + 12) = ((12 * y + 12 : Nat) : Int) := by clear q hz; unfold zW; omega
  have iM : (0 : Int) ≤ ((12 * y + 12 : Nat) : Int) ∧ ((12 * y + 12 : Nat) : Int) ≤ 96 := by clear q hz hz2; omega
  have ia : (0 : Int) ≤ ((12 * y : Nat) : Int) ∧ ((12 * y : Nat) : Int) ≤ ((12 * y + 12 : Nat) : Int) ∧ ((12 * y + 12 : Nat) : Int) ≤ 96 := by clear q hz hz2; omega
  refine zb_117 (d := d) ?_
  rw [hz]
  refine zX_call rfl rfl ?_
  refine ys_0 (d := d + 2) O T (fun G2 F2 O2 => ?_)
  refine zb_117b (d := d) ?_
  rw [hz2]
  refine zX_call rfl rfl ?_
  refine ys_2t (d := d) O iM (Nat.le_refl 0) F2 (fun G3 W3 O3 => ?_)
  have q := q _ (yE_t yE_G yE_G) (yr_oth (yr_oth R O2) O3)
  have s8 : (zG (zG σ G2) G3).1 8 0 8 = (uN (mD (zR4 σ (t : Int))) : Int) := by
    have n := yN8 R
    show σ.1 8 0 8 = _
    rw [n.1]
    show mD σ 19 0 = ((mD σ 19 0).toNat : Int)
    have : 0 ≤ mD σ 19 0 := n.2.1
    clear q
    omega
  have x1 : ∀ h, h < uN (mD (zR4 σ (t : Int))) → uSw ((zG (zG σ G2) G3).1 18 (16 * 1 + h)) (12 * y) 12 = uSw (fun m => uV (mD (zR4 σ (t : Int))) (m + 1) 2 h) (12 * y) 12 := fun h hh => uSw_congr (fun k _ hk => (cw_w W3 (by clear q; omega) hh).2)
  have x9 : ∀ h, h < uN (mD (zR4 σ (t : Int))) → (zG (zG σ G2) G3).1 1 (16 * 0 + h) 1 = mD (zR4 σ (t : Int)) 9 h := fun h hh => T.1.2.2.2.2.2 h 1 hh (by decide)
  unfold vGot at q
  generalize zG (zG σ G2) G3 = x at *
  generalize mD (zR4 σ (t : Int)) = D at *
  generalize uN D = N at *
  clear W3 F2 O2 O3 T K O R
  refine zb_117c (d := d) ?_
  refine zLoop (P := fun h => zX (d + 15) 117 19 [some (.inr (.inr (9, 0))), some (.inl (t : Int)), some (.inl s), some (.inl (y : Int)), some (.inl ((12 * y : Nat) : Int)), some (.inr (.inl (uGt D s (12 * y) h))), none, some (.inl (h : Int))] [] x Q) (k := 0) (N := N) (Nat.zero_le _) ?_ (fun h _ hh ih => ?_)
  · have le : x.1 8 0 8 ≤ (N : Int) := Int.le_of_eq s8
    exact zb_117l (fun a => absurd le a) (fun a => absurd le a) (fun a => absurd le a) (fun _ => q) (fun a => absurd le a) (fun a => absurd le a)
  · have h16 : h < 16 := Nat.lt_of_lt_of_le hh N16
    have nl : ¬ x.1 8 0 8 ≤ (h : Int) := by rw [s8]; clear q ih hz hz2; omega
    have hz3 : zW ((h : Int) + 1) = ((h + 1 : Nat) : Int) := zWs (by clear q ih hz hz2; omega)
    have ir : (0 : Int) ≤ (h : Int) ∧ (h : Int) < 16 := by clear q ih hz hz2 hz3; omega
    have y9 : x.1 1 (16 * 0 + (h : Int).toNat) 1 = D 9 h := x9 h hh
    refine zb_117l (fun _ => ir) (fun _ _ => ir) (fun _ _ => by rw [hz2]; exact ia) (fun a => absurd a nl) (fun _ c => ?_) (fun _ c => ?_)
    · rw [y9] at c
      have e : uGt D s (12 * y) (h + 1) = uGt D s (12 * y) h := if_neg c
      rw [e] at ih
      rw [hz3]; exact ih
    · rw [y9] at c
      have e : uGt D s (12 * y) (h + 1) = zWl (uGt D s (12 * y) h + uSw (fun m => uV D (m + 1) 2 h) (12 * y) 12) := if_pos c
      rw [e, ← x1 h hh] at ih
      rw [hz3, hz2, Int.toNat_natCast, Int.toNat_natCast, Int.toNat_natCast, show 12 * y + 12 - 12 * y = 12 from Nat.add_sub_cancel_left _ _]
      exact ih
theorem zs_179 {d : Nat} {σ : zS} {Q : Option zV → zS → Prop} (R : yRel σ) {t y : Nat} {s : Int} (ht : (t : Int) < σ.1 10 0 6) (hy : y < 8)
    (q : ∀ x, (∀ b : Int, mD (zR4 x b) = mD (zR4 σ b)) → x.1 10 = σ.1 10 → yRel x → Q (some (.inr (.inl (vGot (mD (zR4 σ (t : Int))) s (12 * y))))) x) : zM (d + 7) 179 [.inr (.inr (10, 0)), .inl (t : Int), .inl s, .inl (y : Int)] σ Q := by
  obtain ⟨T, K⟩ := yTd_t (s := zKp σ) R (t := t) ht
  have O := K.1
  have N16 := O.2.2.2.2.1
  have hz : zW (12 * (y : Int)) = ((12 * y : Nat) : Int) := by clear q; unfold zW; omega
  have hz2 : zW (((12 * y : Nat) : Int) + 12) = ((12 * y + 12 : Nat) : Int) := by clear q hz; unfold zW; omega
  have ia : (0 : Int) ≤ ((12 * y : Nat) : Int) ∧ ((12 * y : Nat) : Int) ≤ ((12 * y + 12 : Nat) : Int) ∧ ((12 * y + 12 : Nat) : Int) ≤ 96 := by clear q hz hz2; omega
  refine zb_179 (d := d) ?_
  show zX (d + 7) 179 21 [some (.inr (.inr (10, 0))), some (.inl (t : Int)), some (.inl s), some (.inl (y : Int)), some (.inl 4), none, none] [.inr (.inr (10, 0))] (zS8 σ (t : Int)) Q
  rw [zS8_eq]
  refine zX_call rfl rfl ?_
  refine zs_158 (d := d) K (fun τ M => ?_)
  refine zb_179b (d := d) ?_
  show zX (d + 7) 179 41 [some (.inr (.inr (10, 0))), some (.inl (t : Int)), some (.inl s), some (.inl (y : Int)), some (.inr (.inl 0)), none, some (.inl 0)] [] (zU (zU (zU (zU (yR (zR4 (zKp σ) (t : Int)) τ) 70 0 0 (σ.1 70 0 0)) 70 0 1 (σ.1 70 0 1)) 70 0 2 (σ.1 70 0 2)) 70 0 3 (σ.1 70 0 3)) Q
  rw [zR4_back]
  have q := q (yR (zKp σ) τ) (fun _ => rfl) rfl R
  have x1 : ∀ h, h < uN (mD (zR4 σ (t : Int))) → uSw (fun m => (yR (zKp σ) τ).1 92 0 (17 * m + h)) (12 * y) 12 = uSw (fun m => uV (mD (zR4 σ (t : Int))) (m + 1) 2 h) (12 * y) 12 := fun h hh => uSw_congr (fun k _ hk => (M.2.2.2.2 k h (by clear q; omega) hh (.inl (by clear q; omega))).2.1)
  have x9 : ∀ h, h < uN (mD (zR4 σ (t : Int))) → (yR (zKp σ) τ).1 61 0 h = mD (zR4 σ (t : Int)) 9 h := fun h _ => rfl
  have s8 : (yR (zKp σ) τ).1 10 0 4 = (uN (mD (zR4 σ (t : Int))) : Int) := by
    have n := yN8 R
    show mD σ 19 0 = ((mD σ 19 0).toNat : Int)
    have : 0 ≤ mD σ 19 0 := n.2.1
    clear q
    omega
  have N16 : uN (mD (zR4 σ (t : Int))) ≤ 16 := N16
  unfold vGot at q
  generalize yR (zKp σ) τ = x at *
  generalize mD (zR4 σ (t : Int)) = D at *
  generalize uN D = N at *
  clear M T K O R
  refine zLoop (P := fun h => zX (d + 7) 179 41 [some (.inr (.inr (10, 0))), some (.inl (t : Int)), some (.inl s), some (.inl (y : Int)), some (.inr (.inl (uGt D s (12 * y) h))), none, some (.inl (h : Int))] [] x Q) (k := 0) (N := N) (Nat.zero_le _) ?_ (fun h _ hh ih => ?_)
  · have le : x.1 10 0 4 ≤ (N : Int) := Int.le_of_eq s8
    exact zb_179l (fun a => absurd le a) (fun a => absurd le a) (fun a => absurd le a) (fun _ => q) (fun a => absurd le a) (fun a => absurd le a)
  · have h16 : h < 16 := Nat.lt_of_lt_of_le hh N16
    have nl : ¬ x.1 10 0 4 ≤ (h : Int) := by rw [s8]; clear q ih hz hz2; omega
    have hz3 : zW ((h : Int) + 1) = ((h + 1 : Nat) : Int) := zWs (by clear q ih hz hz2; omega)
    have ir : (0 : Int) ≤ (h : Int) ∧ (h : Int) < 17 := by clear q ih hz hz2 hz3; omega
    have y9 : x.1 61 0 (h : Int).toNat = D 9 h := x9 h hh
    refine zb_179l (fun _ => ir) (fun _ _ => ir) (fun _ _ => by rw [hz, hz2]; exact ia) (fun a => absurd a nl) (fun _ c => ?_) (fun _ c => ?_)
    · rw [y9] at c
      have e : uGt D s (12 * y) (h + 1) = uGt D s (12 * y) h := if_neg c
      rw [e] at ih
      rw [hz3]; exact ih
    · rw [y9] at c
      have e : uGt D s (12 * y) (h + 1) = zWl (uGt D s (12 * y) h + uSw (fun m => uV D (m + 1) 2 h) (12 * y) 12) := if_pos c
      rw [e, ← x1 h hh] at ih
      rw [hz3, hz, hz2, Int.toNat_natCast, Int.toNat_natCast, Int.toNat_natCast, show 12 * y + 12 - 12 * y = 12 from Nat.add_sub_cancel_left _ _]
      exact ih
